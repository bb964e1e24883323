section
-- ===== PART A: goes FIRST, ahead of the names: the tables' words, and 'selects' of the private methods out of them =====
/-- a private method of a class that the tables say can be made, by its rows of tables_1 -/
def lw_okq (q : MethodName × Nat) : Prop := (q.1.cls ≠ "java/lang/invoke/MethodHandle" ∧ q.1.cls ≠ "java/lang/invoke/VarHandle") ∧ Cond.instantiable q.1.cls q.2 ∈ tables_1 ∧ Cond.privateMethod q.1 ∈ tables_1 ∧ Cond.instanceMethod q.1 ∈ tables_1
theorem lw_p0 : lw_okq (⟨"BlindMint", "findPayment", "(I)LBlindMint$Payment;"⟩, 12) := ⟨⟨by decide +kernel, by decide +kernel⟩, List.mem_of_getElem? (i := 20) (by decide +kernel), List.mem_of_getElem? (i := 151) (by decide +kernel), List.mem_of_getElem? (i := 152) (by decide +kernel)⟩
theorem lw_p1 : lw_okq (⟨"BlindMint", "isGood", "(LBlindMint$Payment;)Z"⟩, 12) := ⟨⟨by decide +kernel, by decide +kernel⟩, List.mem_of_getElem? (i := 20) (by decide +kernel), List.mem_of_getElem? (i := 155) (by decide +kernel), List.mem_of_getElem? (i := 156) (by decide +kernel)⟩
theorem lw_p2 : lw_okq (⟨"java/lang/Throwable", "fillInStackTrace", "(I)Ljava/lang/Throwable;"⟩, 6) := ⟨⟨by decide +kernel, by decide +kernel⟩, List.mem_of_getElem? (i := 280) (by decide +kernel), List.mem_of_getElem? (i := 278) (by decide +kernel), List.mem_of_getElem? (i := 279) (by decide +kernel)⟩
theorem lw_p3 : lw_okq (⟨"BlindMint$Proposal", "open", "()V"⟩, 4) := ⟨⟨by decide +kernel, by decide +kernel⟩, List.mem_of_getElem? (i := 30) (by decide +kernel), List.mem_of_getElem? (i := 333) (by decide +kernel), List.mem_of_getElem? (i := 334) (by decide +kernel)⟩
theorem lw_p4 : lw_okq (⟨"BlindMint$Proposal", "sortParts", "()V"⟩, 4) := ⟨⟨by decide +kernel, by decide +kernel⟩, List.mem_of_getElem? (i := 30) (by decide +kernel), List.mem_of_getElem? (i := 342) (by decide +kernel), List.mem_of_getElem? (i := 343) (by decide +kernel)⟩
theorem lw_p5 : lw_okq (⟨"BlindMint$Proposal", "insertPart", "(LBlindMint$Candidate;I)V"⟩, 4) := ⟨⟨by decide +kernel, by decide +kernel⟩, List.mem_of_getElem? (i := 30) (by decide +kernel), List.mem_of_getElem? (i := 346) (by decide +kernel), List.mem_of_getElem? (i := 347) (by decide +kernel)⟩
theorem lw_p6 : lw_okq (⟨"BlindMint", "makeCoin", "(IJ)LBlindMint$Coin;"⟩, 12) := ⟨⟨by decide +kernel, by decide +kernel⟩, List.mem_of_getElem? (i := 20) (by decide +kernel), List.mem_of_getElem? (i := 358) (by decide +kernel), List.mem_of_getElem? (i := 359) (by decide +kernel)⟩
theorem lw_p7 : lw_okq (⟨"BlindMint$Denomination", "join", "(JJ)J"⟩, 6) := ⟨⟨by decide +kernel, by decide +kernel⟩, List.mem_of_getElem? (i := 381) (by decide +kernel), List.mem_of_getElem? (i := 379) (by decide +kernel), List.mem_of_getElem? (i := 380) (by decide +kernel)⟩
theorem lw_p8 : lw_okq (⟨"BlindMint", "findCoin", "(II)LBlindMint$Coin;"⟩, 12) := ⟨⟨by decide +kernel, by decide +kernel⟩, List.mem_of_getElem? (i := 20) (by decide +kernel), List.mem_of_getElem? (i := 479) (by decide +kernel), List.mem_of_getElem? (i := 480) (by decide +kernel)⟩
theorem lw_p9 : lw_okq (⟨"BlindMint", "findCredit", "(J)LBlindMint$Credit;"⟩, 12) := ⟨⟨by decide +kernel, by decide +kernel⟩, List.mem_of_getElem? (i := 20) (by decide +kernel), List.mem_of_getElem? (i := 520) (by decide +kernel), List.mem_of_getElem? (i := 521) (by decide +kernel)⟩
theorem lw_p10 : lw_okq (⟨"BlindMintModel", "fail", "(I)I"⟩, 22) := ⟨⟨by decide +kernel, by decide +kernel⟩, List.mem_of_getElem? (i := 596) (by decide +kernel), List.mem_of_getElem? (i := 683) (by decide +kernel), List.mem_of_getElem? (i := 684) (by decide +kernel)⟩
theorem lw_p11 : lw_okq (⟨"BlindMintModel", "candidates", "(IJI)V"⟩, 22) := ⟨⟨by decide +kernel, by decide +kernel⟩, List.mem_of_getElem? (i := 596) (by decide +kernel), List.mem_of_getElem? (i := 690) (by decide +kernel), List.mem_of_getElem? (i := 691) (by decide +kernel)⟩
theorem lw_p12 : lw_okq (⟨"BlindMintModel", "open", "(I)I"⟩, 22) := ⟨⟨by decide +kernel, by decide +kernel⟩, List.mem_of_getElem? (i := 596) (by decide +kernel), List.mem_of_getElem? (i := 710) (by decide +kernel), List.mem_of_getElem? (i := 711) (by decide +kernel)⟩
theorem lw_p13 : lw_okq (⟨"BlindMintModel", "least", "()I"⟩, 22) := ⟨⟨by decide +kernel, by decide +kernel⟩, List.mem_of_getElem? (i := 596) (by decide +kernel), List.mem_of_getElem? (i := 716) (by decide +kernel), List.mem_of_getElem? (i := 717) (by decide +kernel)⟩
theorem lw_p14 : lw_okq (⟨"BlindMintModel", "numberOf", "(J)J"⟩, 22) := ⟨⟨by decide +kernel, by decide +kernel⟩, List.mem_of_getElem? (i := 596) (by decide +kernel), List.mem_of_getElem? (i := 720) (by decide +kernel), List.mem_of_getElem? (i := 721) (by decide +kernel)⟩
theorem lw_p15 : lw_okq (⟨"BlindMintModel", "noCoin", "(II)Z"⟩, 22) := ⟨⟨by decide +kernel, by decide +kernel⟩, List.mem_of_getElem? (i := 596) (by decide +kernel), List.mem_of_getElem? (i := 758) (by decide +kernel), List.mem_of_getElem? (i := 759) (by decide +kernel)⟩
def lw_privs_1 : List (MethodName × Nat) := [(⟨"BlindMint", "findPayment", "(I)LBlindMint$Payment;"⟩, 12), (⟨"BlindMint", "isGood", "(LBlindMint$Payment;)Z"⟩, 12), (⟨"java/lang/Throwable", "fillInStackTrace", "(I)Ljava/lang/Throwable;"⟩, 6), (⟨"BlindMint$Proposal", "open", "()V"⟩, 4), (⟨"BlindMint$Proposal", "sortParts", "()V"⟩, 4), (⟨"BlindMint$Proposal", "insertPart", "(LBlindMint$Candidate;I)V"⟩, 4), (⟨"BlindMint", "makeCoin", "(IJ)LBlindMint$Coin;"⟩, 12), (⟨"BlindMint$Denomination", "join", "(JJ)J"⟩, 6), (⟨"BlindMint", "findCoin", "(II)LBlindMint$Coin;"⟩, 12), (⟨"BlindMint", "findCredit", "(J)LBlindMint$Credit;"⟩, 12), (⟨"BlindMintModel", "fail", "(I)I"⟩, 22), (⟨"BlindMintModel", "candidates", "(IJI)V"⟩, 22), (⟨"BlindMintModel", "open", "(I)I"⟩, 22), (⟨"BlindMintModel", "least", "()I"⟩, 22), (⟨"BlindMintModel", "numberOf", "(J)J"⟩, 22), (⟨"BlindMintModel", "noCoin", "(II)Z"⟩, 22)]
theorem lw_r1 : ∀ q ∈ lw_privs_1, lw_okq q := List.forall_mem_cons.mpr ⟨lw_p0, List.forall_mem_cons.mpr ⟨lw_p1, List.forall_mem_cons.mpr ⟨lw_p2, List.forall_mem_cons.mpr ⟨lw_p3, List.forall_mem_cons.mpr ⟨lw_p4, List.forall_mem_cons.mpr ⟨lw_p5, List.forall_mem_cons.mpr ⟨lw_p6, List.forall_mem_cons.mpr ⟨lw_p7, List.forall_mem_cons.mpr ⟨lw_p8, List.forall_mem_cons.mpr ⟨lw_p9, List.forall_mem_cons.mpr ⟨lw_p10, List.forall_mem_cons.mpr ⟨lw_p11, List.forall_mem_cons.mpr ⟨lw_p12, List.forall_mem_cons.mpr ⟨lw_p13, List.forall_mem_cons.mpr ⟨lw_p14, List.forall_mem_cons.mpr ⟨lw_p15, fun _ h => absurd h List.not_mem_nil⟩⟩⟩⟩⟩⟩⟩⟩⟩⟩⟩⟩⟩⟩⟩⟩
theorem lw_p16 : lw_okq (⟨"BlindMintModel", "noNumber", "(II)Z"⟩, 22) := ⟨⟨by decide +kernel, by decide +kernel⟩, List.mem_of_getElem? (i := 596) (by decide +kernel), List.mem_of_getElem? (i := 769) (by decide +kernel), List.mem_of_getElem? (i := 770) (by decide +kernel)⟩
theorem lw_p17 : lw_okq (⟨"BlindMintModel", "isGood", "(I)Z"⟩, 22) := ⟨⟨by decide +kernel, by decide +kernel⟩, List.mem_of_getElem? (i := 596) (by decide +kernel), List.mem_of_getElem? (i := 781) (by decide +kernel), List.mem_of_getElem? (i := 782) (by decide +kernel)⟩
theorem lw_p18 : lw_okq (⟨"BlindMintModel", "choiceOf", "(I)J"⟩, 22) := ⟨⟨by decide +kernel, by decide +kernel⟩, List.mem_of_getElem? (i := 596) (by decide +kernel), List.mem_of_getElem? (i := 785) (by decide +kernel), List.mem_of_getElem? (i := 786) (by decide +kernel)⟩
theorem lw_p19 : lw_okq (⟨"BlindMintModel", "noted", "(J)I"⟩, 22) := ⟨⟨by decide +kernel, by decide +kernel⟩, List.mem_of_getElem? (i := 596) (by decide +kernel), List.mem_of_getElem? (i := 796) (by decide +kernel), List.mem_of_getElem? (i := 797) (by decide +kernel)⟩
theorem lw_p20 : lw_okq (⟨"BlindMintModel", "trace", "(II)V"⟩, 22) := ⟨⟨by decide +kernel, by decide +kernel⟩, List.mem_of_getElem? (i := 596) (by decide +kernel), List.mem_of_getElem? (i := 800) (by decide +kernel), List.mem_of_getElem? (i := 801) (by decide +kernel)⟩
def lw_privs_2 : List (MethodName × Nat) := [(⟨"BlindMintModel", "noNumber", "(II)Z"⟩, 22), (⟨"BlindMintModel", "isGood", "(I)Z"⟩, 22), (⟨"BlindMintModel", "choiceOf", "(I)J"⟩, 22), (⟨"BlindMintModel", "noted", "(J)I"⟩, 22), (⟨"BlindMintModel", "trace", "(II)V"⟩, 22)]
theorem lw_r2 : ∀ q ∈ lw_privs_2, lw_okq q := List.forall_mem_cons.mpr ⟨lw_p16, List.forall_mem_cons.mpr ⟨lw_p17, List.forall_mem_cons.mpr ⟨lw_p18, List.forall_mem_cons.mpr ⟨lw_p19, List.forall_mem_cons.mpr ⟨lw_p20, fun _ h => absurd h List.not_mem_nil⟩⟩⟩⟩⟩
def lw_privs : List (MethodName × Nat) := lw_privs_1 ++ (lw_privs_2)
def lw_tbl : List Cond := k2_sels lw_privs ++ tables_1
theorem lw_privs_ok : ∀ q ∈ lw_privs, lw_okq q := by
  show ∀ q ∈ lw_privs_1 ++ (lw_privs_2), lw_okq q
  exact List.forall_mem_append.mpr ⟨lw_r1, lw_r2⟩
end
section
/-! the tables' words, by number -/
def bm_big : List Cond := lw_tbl.filter goodWord
theorem bm_inT {w : Cond} (h : w ∈ tables_1) (hg : goodWord w = true) : w ∈ bm_big := List.mem_filter.mpr ⟨List.mem_append_right _ h, hg⟩
theorem bm_inS {w : Cond} (h : w ∈ k2_sels lw_privs) (hg : goodWord w = true) : w ∈ bm_big := List.mem_filter.mpr ⟨List.mem_append_left _ h, hg⟩
theorem bm_bigG {w : Cond} (h : w ∈ bm_big) : (w.onTables && w.keeps) = true ∨ ∃ ty, w = .arrayClass ty := good_of_word (List.mem_filter.mp h).2
theorem bm_t1 {w : Cond} (h : w ∈ tables_1_1) : w ∈ tables_1 := List.mem_append_left _ h
theorem bm_t2 {w : Cond} (h : w ∈ tables_1_2) : w ∈ tables_1 := List.mem_append_right _ (List.mem_append_left _ h)
theorem bm_t3 {w : Cond} (h : w ∈ tables_1_3) : w ∈ tables_1 := List.mem_append_right _ (List.mem_append_right _ (List.mem_append_left _ h))
theorem bm_t4 {w : Cond} (h : w ∈ tables_1_4) : w ∈ tables_1 := List.mem_append_right _ (List.mem_append_right _ (List.mem_append_right _ h))
theorem bw_0 : (Cond.initialized "BlindMintLaw") ∈ bm_big := bm_inT (bm_t1 (List.mem_of_getElem? (i := 0) rfl)) rfl
theorem bw_1 : (Cond.initialized "BlindMint") ∈ bm_big := bm_inT (bm_t1 (List.mem_of_getElem? (i := 1) rfl)) rfl
theorem bw_2 : (Cond.initialized "BlindMint$Proposal") ∈ bm_big := bm_inT (bm_t1 (List.mem_of_getElem? (i := 2) rfl)) rfl
theorem bw_3 : (Cond.initialized "BlindMint$Candidate") ∈ bm_big := bm_inT (bm_t1 (List.mem_of_getElem? (i := 3) rfl)) rfl
theorem bw_4 : (Cond.initialized "BlindMint$Account") ∈ bm_big := bm_inT (bm_t1 (List.mem_of_getElem? (i := 4) rfl)) rfl
theorem bw_5 : (Cond.initialized "BlindMintModel") ∈ bm_big := bm_inT (bm_t1 (List.mem_of_getElem? (i := 5) rfl)) rfl
theorem bw_6 : (Cond.initialized "java/lang/Throwable") ∈ bm_big := bm_inT (bm_t1 (List.mem_of_getElem? (i := 6) rfl)) rfl
theorem bw_7 : (Cond.initialized "java/lang/Exception") ∈ bm_big := bm_inT (bm_t1 (List.mem_of_getElem? (i := 7) rfl)) rfl
theorem bw_8 : (Cond.initialized "java/lang/RuntimeException") ∈ bm_big := bm_inT (bm_t1 (List.mem_of_getElem? (i := 8) rfl)) rfl
theorem bw_9 : (Cond.initialized "java/lang/IllegalArgumentException") ∈ bm_big := bm_inT (bm_t1 (List.mem_of_getElem? (i := 9) rfl)) rfl
theorem bw_10 : (Cond.initialized "java/lang/IllegalStateException") ∈ bm_big := bm_inT (bm_t1 (List.mem_of_getElem? (i := 10) rfl)) rfl
theorem bw_11 : (Cond.initialized "BlindMint$Hash") ∈ bm_big := bm_inT (bm_t1 (List.mem_of_getElem? (i := 11) rfl)) rfl
theorem bw_12 : (Cond.initialized "BlindMint$Field") ∈ bm_big := bm_inT (bm_t1 (List.mem_of_getElem? (i := 12) rfl)) rfl
theorem bw_13 : (Cond.initialized "java/lang/Math") ∈ bm_big := bm_inT (bm_t1 (List.mem_of_getElem? (i := 13) rfl)) rfl
theorem bw_14 : (Cond.initialized "BlindMint$Coin") ∈ bm_big := bm_inT (bm_t1 (List.mem_of_getElem? (i := 14) rfl)) rfl
theorem bw_15 : (Cond.initialized "java/util/NoSuchElementException") ∈ bm_big := bm_inT (bm_t1 (List.mem_of_getElem? (i := 15) rfl)) rfl
theorem bw_16 : (Cond.initialized "BlindMint$Payment") ∈ bm_big := bm_inT (bm_t1 (List.mem_of_getElem? (i := 16) rfl)) rfl
theorem bw_17 : (Cond.initialized "java/lang/System") ∈ bm_big := bm_inT (bm_t1 (List.mem_of_getElem? (i := 17) rfl)) rfl
theorem bw_18 : (Cond.initialized "BlindMint$Credit") ∈ bm_big := bm_inT (bm_t1 (List.mem_of_getElem? (i := 18) rfl)) rfl
theorem bw_19 : (Cond.classLink "BlindMintLaw" 8 "BlindMint") ∈ bm_big := bm_inT (bm_t1 (List.mem_of_getElem? (i := 19) rfl)) rfl
theorem bw_20 : (Cond.instantiable "BlindMint" 12) ∈ bm_big := bm_inT (bm_t1 (List.mem_of_getElem? (i := 20) rfl)) rfl
theorem bw_21 : (Cond.methodLink "BlindMintLaw" 48 ({ cls := "BlindMint", name := "<init>", desc := "()V" } : MethodName)) ∈ bm_big := bm_inT (bm_t1 (List.mem_of_getElem? (i := 21) rfl)) rfl
theorem bw_22 : (Cond.instanceMethod ({ cls := "BlindMint", name := "<init>", desc := "()V" } : MethodName)) ∈ bm_big := bm_inT (bm_t1 (List.mem_of_getElem? (i := 22) rfl)) rfl
theorem bw_23 : (Cond.code ({ cls := "BlindMint", name := "<init>", desc := "()V" } : MethodName) prog_1_method_1_code 2 (Option.none : Option Jvm.ClassFile.FieldType)) ∈ bm_big := bm_inT (bm_t1 (List.mem_of_getElem? (i := 23) rfl)) rfl
theorem bw_24 : (Cond.methodLink "BlindMint" 3 ({ cls := "java/lang/Object", name := "<init>", desc := "()V" } : MethodName)) ∈ bm_big := bm_inT (bm_t1 (List.mem_of_getElem? (i := 24) rfl)) rfl
theorem bw_25 : (Cond.instanceMethod ({ cls := "java/lang/Object", name := "<init>", desc := "()V" } : MethodName)) ∈ bm_big := bm_inT (bm_t1 (List.mem_of_getElem? (i := 25) rfl)) rfl
theorem bw_26 : (Cond.code ({ cls := "java/lang/Object", name := "<init>", desc := "()V" } : MethodName) object_method_1_code 1 (Option.none : Option Jvm.ClassFile.FieldType)) ∈ bm_big := bm_inT (bm_t1 (List.mem_of_getElem? (i := 26) rfl)) rfl
theorem bw_27 : (Cond.classLink "BlindMint" 9 "BlindMint$Account") ∈ bm_big := bm_inT (bm_t1 (List.mem_of_getElem? (i := 27) rfl)) rfl
theorem bw_29 : (Cond.classLink "BlindMint" 15 "BlindMint$Proposal") ∈ bm_big := bm_inT (bm_t1 (List.mem_of_getElem? (i := 29) rfl)) rfl
theorem bw_30 : (Cond.instantiable "BlindMint$Proposal" 4) ∈ bm_big := bm_inT (bm_t1 (List.mem_of_getElem? (i := 30) rfl)) rfl
theorem bw_31 : (Cond.methodLink "BlindMint" 17 ({ cls := "BlindMint$Proposal", name := "<init>", desc := "()V" } : MethodName)) ∈ bm_big := bm_inT (bm_t1 (List.mem_of_getElem? (i := 31) rfl)) rfl
theorem bw_32 : (Cond.instanceMethod ({ cls := "BlindMint$Proposal", name := "<init>", desc := "()V" } : MethodName)) ∈ bm_big := bm_inT (bm_t1 (List.mem_of_getElem? (i := 32) rfl)) rfl
theorem bw_33 : (Cond.code ({ cls := "BlindMint$Proposal", name := "<init>", desc := "()V" } : MethodName) prog_10_method_1_code 2 (Option.none : Option Jvm.ClassFile.FieldType)) ∈ bm_big := bm_inT (bm_t1 (List.mem_of_getElem? (i := 33) rfl)) rfl
theorem bw_34 : (Cond.methodLink "BlindMint$Proposal" 3 ({ cls := "java/lang/Object", name := "<init>", desc := "()V" } : MethodName)) ∈ bm_big := bm_inT (bm_t1 (List.mem_of_getElem? (i := 34) rfl)) rfl
theorem bw_35 : (Cond.classLink "BlindMint$Proposal" 9 "BlindMint$Candidate") ∈ bm_big := bm_inT (bm_t1 (List.mem_of_getElem? (i := 35) rfl)) rfl
theorem bw_37 : (Cond.instantiable "BlindMint$Candidate" 7) ∈ bm_big := bm_inT (bm_t1 (List.mem_of_getElem? (i := 37) rfl)) rfl
theorem bw_39 : (Cond.instanceMethod ({ cls := "BlindMint$Candidate", name := "<init>", desc := "()V" } : MethodName)) ∈ bm_big := bm_inT (bm_t1 (List.mem_of_getElem? (i := 39) rfl)) rfl
theorem bw_40 : (Cond.code ({ cls := "BlindMint$Candidate", name := "<init>", desc := "()V" } : MethodName) prog_3_method_1_code 1 (Option.none : Option Jvm.ClassFile.FieldType)) ∈ bm_big := bm_inT (bm_t1 (List.mem_of_getElem? (i := 40) rfl)) rfl
theorem bw_41 : (Cond.methodLink "BlindMint$Candidate" 1 ({ cls := "java/lang/Object", name := "<init>", desc := "()V" } : MethodName)) ∈ bm_big := bm_inT (bm_t1 (List.mem_of_getElem? (i := 41) rfl)) rfl
theorem bw_42 : (Cond.fieldLink "BlindMint$Coin" 35 "BlindMint$Candidate" "a" "J") ∈ bm_big := bm_inT (bm_t1 (List.mem_of_getElem? (i := 42) rfl)) rfl
theorem bw_43 : (Cond.fieldLink "BlindMint$Candidate" 13 "BlindMint$Candidate" "a" "J") ∈ bm_big := bm_inT (bm_t1 (List.mem_of_getElem? (i := 43) rfl)) rfl
theorem bw_44 : (Cond.fieldLink "BlindMint$Coin" 40 "BlindMint$Candidate" "c" "J") ∈ bm_big := bm_inT (bm_t1 (List.mem_of_getElem? (i := 44) rfl)) rfl
theorem bw_45 : (Cond.fieldLink "BlindMint$Candidate" 19 "BlindMint$Candidate" "c" "J") ∈ bm_big := bm_inT (bm_t1 (List.mem_of_getElem? (i := 45) rfl)) rfl
theorem bw_46 : (Cond.fieldLink "BlindMint$Coin" 49 "BlindMint$Candidate" "e" "J") ∈ bm_big := bm_inT (bm_t1 (List.mem_of_getElem? (i := 46) rfl)) rfl
theorem bw_47 : (Cond.fieldLink "BlindMint$Candidate" 22 "BlindMint$Candidate" "e" "J") ∈ bm_big := bm_inT (bm_t1 (List.mem_of_getElem? (i := 47) rfl)) rfl
theorem bw_48 : (Cond.fieldLink "BlindMint$Coin" 46 "BlindMint$Candidate" "b" "J") ∈ bm_big := bm_inT (bm_t1 (List.mem_of_getElem? (i := 48) rfl)) rfl
theorem bw_49 : (Cond.fieldLink "BlindMint$Candidate" 25 "BlindMint$Candidate" "b" "J") ∈ bm_big := bm_inT (bm_t1 (List.mem_of_getElem? (i := 49) rfl)) rfl
theorem bw_50 : (Cond.fieldLink "BlindMint$Coin" 52 "BlindMint$Candidate" "x" "J") ∈ bm_big := bm_inT (bm_t1 (List.mem_of_getElem? (i := 50) rfl)) rfl
theorem bw_51 : (Cond.fieldLink "BlindMint$Candidate" 28 "BlindMint$Candidate" "x" "J") ∈ bm_big := bm_inT (bm_t1 (List.mem_of_getElem? (i := 51) rfl)) rfl
theorem bw_52 : (Cond.fieldLink "BlindMint$Coin" 43 "BlindMint$Candidate" "y" "J") ∈ bm_big := bm_inT (bm_t1 (List.mem_of_getElem? (i := 52) rfl)) rfl
theorem bw_53 : (Cond.fieldLink "BlindMint$Candidate" 31 "BlindMint$Candidate" "y" "J") ∈ bm_big := bm_inT (bm_t1 (List.mem_of_getElem? (i := 53) rfl)) rfl
theorem bw_54 : (Cond.fieldLink "BlindMint$Candidate" 34 "BlindMint$Candidate" "pairHash" "J") ∈ bm_big := bm_inT (bm_t1 (List.mem_of_getElem? (i := 54) rfl)) rfl
theorem bw_55 : (Cond.fieldLink "BlindMint$Proposal" 42 "BlindMint$Candidate" "pairHash" "J") ∈ bm_big := bm_inT (bm_t1 (List.mem_of_getElem? (i := 55) rfl)) rfl
theorem bw_56 : (Cond.lays "BlindMint$Candidate" "BlindMint$Candidate" "a" "J") ∈ bm_big := bm_inT (bm_t1 (List.mem_of_getElem? (i := 56) rfl)) rfl
theorem bw_58 : (Cond.lays "BlindMint$Candidate" "BlindMint$Candidate" "c" "J") ∈ bm_big := bm_inT (bm_t1 (List.mem_of_getElem? (i := 58) rfl)) rfl
theorem bw_60 : (Cond.lays "BlindMint$Candidate" "BlindMint$Candidate" "e" "J") ∈ bm_big := bm_inT (bm_t1 (List.mem_of_getElem? (i := 60) rfl)) rfl
theorem bw_62 : (Cond.lays "BlindMint$Candidate" "BlindMint$Candidate" "b" "J") ∈ bm_big := bm_inT (bm_t1 (List.mem_of_getElem? (i := 62) rfl)) rfl
theorem bw_64 : (Cond.lays "BlindMint$Candidate" "BlindMint$Candidate" "x" "J") ∈ bm_big := bm_inT (bm_t1 (List.mem_of_getElem? (i := 64) rfl)) rfl
theorem bw_66 : (Cond.lays "BlindMint$Candidate" "BlindMint$Candidate" "y" "J") ∈ bm_big := bm_inT (bm_t1 (List.mem_of_getElem? (i := 66) rfl)) rfl
theorem bw_68 : (Cond.lays "BlindMint$Candidate" "BlindMint$Candidate" "pairHash" "J") ∈ bm_big := bm_inT (bm_t1 (List.mem_of_getElem? (i := 68) rfl)) rfl
theorem bw_71 : (Cond.fieldLink "BlindMint$Proposal" 11 "BlindMint$Proposal" "candidates" "[LBlindMint$Candidate;") ∈ bm_big := bm_inT (bm_t1 (List.mem_of_getElem? (i := 71) rfl)) rfl
theorem bw_72 : (Cond.fieldLink "BlindMint$Proposal" 17 "BlindMint$Proposal" "parts" "[LBlindMint$Candidate;") ∈ bm_big := bm_inT (bm_t1 (List.mem_of_getElem? (i := 72) rfl)) rfl
theorem bw_73 : (Cond.fieldLink "BlindMint" 213 "BlindMint$Proposal" "parts" "[LBlindMint$Candidate;") ∈ bm_big := bm_inT (bm_t1 (List.mem_of_getElem? (i := 73) rfl)) rfl
theorem bw_74 : (Cond.fieldLink "BlindMint$Proposal" 20 "BlindMint$Proposal" "firstOpened" "I") ∈ bm_big := bm_inT (bm_t1 (List.mem_of_getElem? (i := 74) rfl)) rfl
theorem bw_75 : (Cond.fieldLink "BlindMint$Proposal" 24 "BlindMint$Proposal" "secondOpened" "I") ∈ bm_big := bm_inT (bm_t1 (List.mem_of_getElem? (i := 75) rfl)) rfl
theorem bw_76 : (Cond.laysFinal "BlindMint$Proposal" "BlindMint$Proposal" "candidates" "[LBlindMint$Candidate;") ∈ bm_big := bm_inT (bm_t1 (List.mem_of_getElem? (i := 76) rfl)) rfl
theorem bw_78 : (Cond.laysFinal "BlindMint$Proposal" "BlindMint$Proposal" "parts" "[LBlindMint$Candidate;") ∈ bm_big := bm_inT (bm_t1 (List.mem_of_getElem? (i := 78) rfl)) rfl
theorem bw_80 : (Cond.lays "BlindMint$Proposal" "BlindMint$Proposal" "firstOpened" "I") ∈ bm_big := bm_inT (bm_t1 (List.mem_of_getElem? (i := 80) rfl)) rfl
theorem bw_82 : (Cond.lays "BlindMint$Proposal" "BlindMint$Proposal" "secondOpened" "I") ∈ bm_big := bm_inT (bm_t1 (List.mem_of_getElem? (i := 82) rfl)) rfl
theorem bw_85 : (Cond.classLink "BlindMint" 22 "BlindMint$Payment") ∈ bm_big := bm_inT (bm_t1 (List.mem_of_getElem? (i := 85) rfl)) rfl
theorem bw_87 : (Cond.constantLong "BlindMint" 43 (-1)) ∈ bm_big := bm_inT (bm_t1 (List.mem_of_getElem? (i := 87) rfl)) rfl
theorem bw_88 : (Cond.instantiable "BlindMint$Account" 3) ∈ bm_big := bm_inT (bm_t1 (List.mem_of_getElem? (i := 88) rfl)) rfl
theorem bw_90 : (Cond.instanceMethod ({ cls := "BlindMint$Account", name := "<init>", desc := "()V" } : MethodName)) ∈ bm_big := bm_inT (bm_t1 (List.mem_of_getElem? (i := 90) rfl)) rfl
theorem bw_91 : (Cond.code ({ cls := "BlindMint$Account", name := "<init>", desc := "()V" } : MethodName) prog_2_method_1_code 1 (Option.none : Option Jvm.ClassFile.FieldType)) ∈ bm_big := bm_inT (bm_t1 (List.mem_of_getElem? (i := 91) rfl)) rfl
theorem bw_92 : (Cond.methodLink "BlindMint$Account" 3 ({ cls := "java/lang/Object", name := "<init>", desc := "()V" } : MethodName)) ∈ bm_big := bm_inT (bm_t1 (List.mem_of_getElem? (i := 92) rfl)) rfl
theorem bw_93 : (Cond.classLink "BlindMint$Account" 15 "BlindMint$Coin") ∈ bm_big := bm_inT (bm_t1 (List.mem_of_getElem? (i := 93) rfl)) rfl
theorem bw_95 : (Cond.fieldLink "BlindMint$Account" 9 "BlindMint$Account" "balance" "I") ∈ bm_big := bm_inT (bm_t1 (List.mem_of_getElem? (i := 95) rfl)) rfl
theorem bw_96 : (Cond.fieldLink "BlindMint" 82 "BlindMint$Account" "balance" "I") ∈ bm_big := bm_inT (bm_t1 (List.mem_of_getElem? (i := 96) rfl)) rfl
theorem bw_97 : (Cond.fieldLink "BlindMint$Account" 17 "BlindMint$Account" "wallet" "[LBlindMint$Coin;") ∈ bm_big := bm_inT (bm_t1 (List.mem_of_getElem? (i := 97) rfl)) rfl
theorem bw_98 : (Cond.fieldLink "BlindMint" 180 "BlindMint$Account" "wallet" "[LBlindMint$Coin;") ∈ bm_big := bm_inT (bm_t1 (List.mem_of_getElem? (i := 98) rfl)) rfl
theorem bw_99 : (Cond.fieldLink "BlindMint$Account" 21 "BlindMint$Account" "coinCount" "I") ∈ bm_big := bm_inT (bm_t1 (List.mem_of_getElem? (i := 99) rfl)) rfl
theorem bw_100 : (Cond.fieldLink "BlindMint" 108 "BlindMint$Account" "coinCount" "I") ∈ bm_big := bm_inT (bm_t1 (List.mem_of_getElem? (i := 100) rfl)) rfl
theorem bw_101 : (Cond.lays "BlindMint$Account" "BlindMint$Account" "balance" "I") ∈ bm_big := bm_inT (bm_t1 (List.mem_of_getElem? (i := 101) rfl)) rfl
theorem bw_103 : (Cond.laysFinal "BlindMint$Account" "BlindMint$Account" "wallet" "[LBlindMint$Coin;") ∈ bm_big := bm_inT (bm_t1 (List.mem_of_getElem? (i := 103) rfl)) rfl
theorem bw_105 : (Cond.lays "BlindMint$Account" "BlindMint$Account" "coinCount" "I") ∈ bm_big := bm_inT (bm_t1 (List.mem_of_getElem? (i := 105) rfl)) rfl
theorem bw_108 : (Cond.arrayClass FieldType.long) ∈ bm_big := bm_inT (bm_t1 (List.mem_of_getElem? (i := 108) rfl)) rfl
theorem bw_109 : (Cond.fieldLink "BlindMint" 11 "BlindMint" "accounts" "[LBlindMint$Account;") ∈ bm_big := bm_inT (bm_t1 (List.mem_of_getElem? (i := 109) rfl)) rfl
theorem bw_110 : (Cond.fieldLink "BlindMint" 18 "BlindMint" "proposal" "LBlindMint$Proposal;") ∈ bm_big := bm_inT (bm_t1 (List.mem_of_getElem? (i := 110) rfl)) rfl
theorem bw_111 : (Cond.fieldLink "BlindMint" 24 "BlindMint" "payments" "[LBlindMint$Payment;") ∈ bm_big := bm_inT (bm_t1 (List.mem_of_getElem? (i := 111) rfl)) rfl
theorem bw_112 : (Cond.fieldLink "BlindMint" 28 "BlindMint" "paymentCount" "I") ∈ bm_big := bm_inT (bm_t1 (List.mem_of_getElem? (i := 112) rfl)) rfl
theorem bw_113 : (Cond.fieldLink "BlindMint" 32 "BlindMint" "pairHashes" "[J") ∈ bm_big := bm_inT (bm_t1 (List.mem_of_getElem? (i := 113) rfl)) rfl
theorem bw_114 : (Cond.fieldLink "BlindMint" 36 "BlindMint" "lastCredit" "LBlindMint$Credit;") ∈ bm_big := bm_inT (bm_t1 (List.mem_of_getElem? (i := 114) rfl)) rfl
theorem bw_115 : (Cond.fieldLink "BlindMint" 40 "BlindMint" "lastTraced" "I") ∈ bm_big := bm_inT (bm_t1 (List.mem_of_getElem? (i := 115) rfl)) rfl
theorem bw_116 : (Cond.fieldLink "BlindMint" 45 "BlindMint" "lastBlinded" "J") ∈ bm_big := bm_inT (bm_t1 (List.mem_of_getElem? (i := 116) rfl)) rfl
theorem bw_117 : (Cond.fieldLink "BlindMint" 49 "BlindMint" "withdrawnCoins" "I") ∈ bm_big := bm_inT (bm_t1 (List.mem_of_getElem? (i := 117) rfl)) rfl
theorem bw_118 : (Cond.fieldLink "BlindMint" 52 "BlindMint" "depositedCoins" "I") ∈ bm_big := bm_inT (bm_t1 (List.mem_of_getElem? (i := 118) rfl)) rfl
theorem bw_119 : (Cond.fieldLink "BlindMint" 55 "BlindMint" "foundCheats" "I") ∈ bm_big := bm_inT (bm_t1 (List.mem_of_getElem? (i := 119) rfl)) rfl
theorem bw_120 : (Cond.fieldLink "BlindMint" 58 "BlindMint" "repeatedDeposits" "I") ∈ bm_big := bm_inT (bm_t1 (List.mem_of_getElem? (i := 120) rfl)) rfl
theorem bw_121 : (Cond.laysFinal "BlindMint" "BlindMint" "accounts" "[LBlindMint$Account;") ∈ bm_big := bm_inT (bm_t1 (List.mem_of_getElem? (i := 121) rfl)) rfl
theorem bw_123 : (Cond.laysFinal "BlindMint" "BlindMint" "proposal" "LBlindMint$Proposal;") ∈ bm_big := bm_inT (bm_t1 (List.mem_of_getElem? (i := 123) rfl)) rfl
theorem bw_125 : (Cond.laysFinal "BlindMint" "BlindMint" "payments" "[LBlindMint$Payment;") ∈ bm_big := bm_inT (bm_t1 (List.mem_of_getElem? (i := 125) rfl)) rfl
theorem bw_127 : (Cond.lays "BlindMint" "BlindMint" "paymentCount" "I") ∈ bm_big := bm_inT (bm_t1 (List.mem_of_getElem? (i := 127) rfl)) rfl
theorem bw_129 : (Cond.laysFinal "BlindMint" "BlindMint" "pairHashes" "[J") ∈ bm_big := bm_inT (bm_t1 (List.mem_of_getElem? (i := 129) rfl)) rfl
theorem bw_131 : (Cond.lays "BlindMint" "BlindMint" "lastCredit" "LBlindMint$Credit;") ∈ bm_big := bm_inT (bm_t1 (List.mem_of_getElem? (i := 131) rfl)) rfl
theorem bw_133 : (Cond.lays "BlindMint" "BlindMint" "lastTraced" "I") ∈ bm_big := bm_inT (bm_t1 (List.mem_of_getElem? (i := 133) rfl)) rfl
theorem bw_135 : (Cond.lays "BlindMint" "BlindMint" "lastBlinded" "J") ∈ bm_big := bm_inT (bm_t1 (List.mem_of_getElem? (i := 135) rfl)) rfl
theorem bw_137 : (Cond.lays "BlindMint" "BlindMint" "withdrawnCoins" "I") ∈ bm_big := bm_inT (bm_t1 (List.mem_of_getElem? (i := 137) rfl)) rfl
theorem bw_139 : (Cond.lays "BlindMint" "BlindMint" "depositedCoins" "I") ∈ bm_big := bm_inT (bm_t1 (List.mem_of_getElem? (i := 139) rfl)) rfl
theorem bw_141 : (Cond.lays "BlindMint" "BlindMint" "foundCheats" "I") ∈ bm_big := bm_inT (bm_t1 (List.mem_of_getElem? (i := 141) rfl)) rfl
theorem bw_143 : (Cond.lays "BlindMint" "BlindMint" "repeatedDeposits" "I") ∈ bm_big := bm_inT (bm_t1 (List.mem_of_getElem? (i := 143) rfl)) rfl
theorem bw_146 : (Cond.methodLink "BlindMintLaw" 79 ({ cls := "BlindMint", name := "good", desc := "(I)Z" } : MethodName)) ∈ bm_big := bm_inT (bm_t1 (List.mem_of_getElem? (i := 146) rfl)) rfl
theorem bw_147 : (Cond.instanceMethod ({ cls := "BlindMint", name := "good", desc := "(I)Z" } : MethodName)) ∈ bm_big := bm_inT (bm_t1 (List.mem_of_getElem? (i := 147) rfl)) rfl
theorem bw_148 : (Cond.selects "BlindMint" ({ cls := "BlindMint", name := "good", desc := "(I)Z" } : MethodName) ({ cls := "BlindMint", name := "good", desc := "(I)Z" } : MethodName)) ∈ bm_big := bm_inT (bm_t1 (List.mem_of_getElem? (i := 148) rfl)) rfl
theorem bw_149 : (Cond.code ({ cls := "BlindMint", name := "good", desc := "(I)Z" } : MethodName) prog_1_method_7_code 3 (Option.some FieldType.boolean)) ∈ bm_big := bm_inT (bm_t1 (List.mem_of_getElem? (i := 149) rfl)) rfl
theorem bw_150 : (Cond.methodLink "BlindMint" 131 ({ cls := "BlindMint", name := "findPayment", desc := "(I)LBlindMint$Payment;" } : MethodName)) ∈ bm_big := bm_inT (bm_t1 (List.mem_of_getElem? (i := 150) rfl)) rfl
theorem bw_152 : (Cond.instanceMethod ({ cls := "BlindMint", name := "findPayment", desc := "(I)LBlindMint$Payment;" } : MethodName)) ∈ bm_big := bm_inT (bm_t1 (List.mem_of_getElem? (i := 152) rfl)) rfl
theorem bw_153 : (Cond.code ({ cls := "BlindMint", name := "findPayment", desc := "(I)LBlindMint$Payment;" } : MethodName) prog_1_method_21_code 2 (Option.some (FieldType.object "BlindMint$Payment"))) ∈ bm_big := bm_inT (bm_t1 (List.mem_of_getElem? (i := 153) rfl)) rfl
theorem bw_154 : (Cond.methodLink "BlindMint" 141 ({ cls := "BlindMint", name := "isGood", desc := "(LBlindMint$Payment;)Z" } : MethodName)) ∈ bm_big := bm_inT (bm_t1 (List.mem_of_getElem? (i := 154) rfl)) rfl
theorem bw_156 : (Cond.instanceMethod ({ cls := "BlindMint", name := "isGood", desc := "(LBlindMint$Payment;)Z" } : MethodName)) ∈ bm_big := bm_inT (bm_t1 (List.mem_of_getElem? (i := 156) rfl)) rfl
theorem bw_157 : (Cond.code ({ cls := "BlindMint", name := "isGood", desc := "(LBlindMint$Payment;)Z" } : MethodName) prog_1_method_23_code 4 (Option.some FieldType.boolean)) ∈ bm_big := bm_inT (bm_t1 (List.mem_of_getElem? (i := 157) rfl)) rfl
theorem bw_158 : (Cond.methodLink "BlindMint" 145 ({ cls := "BlindMint$Payment", name := "denomination", desc := "()J" } : MethodName)) ∈ bm_big := bm_inT (bm_t1 (List.mem_of_getElem? (i := 158) rfl)) rfl
theorem bw_159 : (Cond.instanceMethod ({ cls := "BlindMint$Payment", name := "denomination", desc := "()J" } : MethodName)) ∈ bm_big := bm_inT (bm_t1 (List.mem_of_getElem? (i := 159) rfl)) rfl
theorem bw_160 : (Cond.selects "BlindMint$Payment" ({ cls := "BlindMint$Payment", name := "denomination", desc := "()J" } : MethodName) ({ cls := "BlindMint$Payment", name := "denomination", desc := "()J" } : MethodName)) ∈ bm_big := bm_inT (bm_t1 (List.mem_of_getElem? (i := 160) rfl)) rfl
theorem bw_161 : (Cond.code ({ cls := "BlindMint$Payment", name := "denomination", desc := "()J" } : MethodName) prog_9_method_3_code 1 (Option.some FieldType.long)) ∈ bm_big := bm_inT (bm_t1 (List.mem_of_getElem? (i := 161) rfl)) rfl
theorem bw_162 : (Cond.methodLink "BlindMint" 66 ({ cls := "BlindMint", name := "isDenomination", desc := "(J)Z" } : MethodName)) ∈ bm_big := bm_inT (bm_t1 (List.mem_of_getElem? (i := 162) rfl)) rfl
theorem bw_163 : (Cond.static ({ cls := "BlindMint", name := "isDenomination", desc := "(J)Z" } : MethodName)) ∈ bm_big := bm_inT (bm_t1 (List.mem_of_getElem? (i := 163) rfl)) rfl
theorem bw_164 : (Cond.code ({ cls := "BlindMint", name := "isDenomination", desc := "(J)Z" } : MethodName) prog_1_method_17_code 2 (Option.some FieldType.boolean)) ∈ bm_big := bm_inT (bm_t1 (List.mem_of_getElem? (i := 164) rfl)) rfl
theorem bw_165 : (Cond.fieldLink "BlindMint" 73 "BlindMint" "DENOMINATIONS" "[LBlindMint$Denomination;") ∈ bm_big := bm_inT (bm_t1 (List.mem_of_getElem? (i := 165) rfl)) rfl
theorem bw_167 : (Cond.methodLink "BlindMint" 220 ({ cls := "BlindMint$Payment", name := "readPairHashes", desc := "([J)V" } : MethodName)) ∈ bm_big := bm_inT (bm_t1 (List.mem_of_getElem? (i := 167) rfl)) rfl
theorem bw_168 : (Cond.instanceMethod ({ cls := "BlindMint$Payment", name := "readPairHashes", desc := "([J)V" } : MethodName)) ∈ bm_big := bm_inT (bm_t1 (List.mem_of_getElem? (i := 168) rfl)) rfl
theorem bw_169 : (Cond.selects "BlindMint$Payment" ({ cls := "BlindMint$Payment", name := "readPairHashes", desc := "([J)V" } : MethodName) ({ cls := "BlindMint$Payment", name := "readPairHashes", desc := "([J)V" } : MethodName)) ∈ bm_big := bm_inT (bm_t1 (List.mem_of_getElem? (i := 169) rfl)) rfl
theorem bw_170 : (Cond.code ({ cls := "BlindMint$Payment", name := "readPairHashes", desc := "([J)V" } : MethodName) prog_9_method_7_code 10 (Option.none : Option Jvm.ClassFile.FieldType)) ∈ bm_big := bm_inT (bm_t1 (List.mem_of_getElem? (i := 170) rfl)) rfl
theorem bw_171 : (Cond.methodLink "BlindMint$Payment" 25 ({ cls := "BlindMint$Payment", name := "challenge", desc := "()J" } : MethodName)) ∈ bm_big := bm_inT (bm_t1 (List.mem_of_getElem? (i := 171) rfl)) rfl
theorem bw_172 : (Cond.instanceMethod ({ cls := "BlindMint$Payment", name := "challenge", desc := "()J" } : MethodName)) ∈ bm_big := bm_inT (bm_t1 (List.mem_of_getElem? (i := 172) rfl)) rfl
theorem bw_173 : (Cond.selects "BlindMint$Payment" ({ cls := "BlindMint$Payment", name := "challenge", desc := "()J" } : MethodName) ({ cls := "BlindMint$Payment", name := "challenge", desc := "()J" } : MethodName)) ∈ bm_big := bm_inT (bm_t1 (List.mem_of_getElem? (i := 173) rfl)) rfl
theorem bw_174 : (Cond.code ({ cls := "BlindMint$Payment", name := "challenge", desc := "()J" } : MethodName) prog_9_method_5_code 3 (Option.some FieldType.long)) ∈ bm_big := bm_inT (bm_t1 (List.mem_of_getElem? (i := 174) rfl)) rfl
theorem bw_175 : (Cond.constantLong "BlindMint$Payment" 51 (7)) ∈ bm_big := bm_inT (bm_t1 (List.mem_of_getElem? (i := 175) rfl)) rfl
theorem bw_176 : (Cond.methodLink "BlindMint$Payment" 53 ({ cls := "BlindMint$Hash", name := "step", desc := "(JJ)J" } : MethodName)) ∈ bm_big := bm_inT (bm_t1 (List.mem_of_getElem? (i := 176) rfl)) rfl
theorem bw_177 : (Cond.static ({ cls := "BlindMint$Hash", name := "step", desc := "(JJ)J" } : MethodName)) ∈ bm_big := bm_inT (bm_t1 (List.mem_of_getElem? (i := 177) rfl)) rfl
theorem bw_178 : (Cond.code ({ cls := "BlindMint$Hash", name := "step", desc := "(JJ)J" } : MethodName) prog_8_method_2_code 6 (Option.some FieldType.long)) ∈ bm_big := bm_inT (bm_t1 (List.mem_of_getElem? (i := 178) rfl)) rfl
theorem bw_179 : (Cond.constantLong "BlindMint$Hash" 9 (6364136223846793005)) ∈ bm_big := bm_inT (bm_t1 (List.mem_of_getElem? (i := 179) rfl)) rfl
theorem bw_180 : (Cond.constantLong "BlindMint$Hash" 11 (1442695040888963407)) ∈ bm_big := bm_inT (bm_t1 (List.mem_of_getElem? (i := 180) rfl)) rfl
theorem bw_181 : (Cond.methodLink "BlindMint$Payment" 57 ({ cls := "BlindMint$Hash", name := "end", desc := "(J)J" } : MethodName)) ∈ bm_big := bm_inT (bm_t1 (List.mem_of_getElem? (i := 181) rfl)) rfl
theorem bw_182 : (Cond.static ({ cls := "BlindMint$Hash", name := "end", desc := "(J)J" } : MethodName)) ∈ bm_big := bm_inT (bm_t1 (List.mem_of_getElem? (i := 182) rfl)) rfl
theorem bw_183 : (Cond.code ({ cls := "BlindMint$Hash", name := "end", desc := "(J)J" } : MethodName) prog_8_method_3_code 2 (Option.some FieldType.long)) ∈ bm_big := bm_inT (bm_t1 (List.mem_of_getElem? (i := 183) rfl)) rfl
theorem bw_184 : (Cond.constantLong "BlindMint$Hash" 13 (576460752303423487)) ∈ bm_big := bm_inT (bm_t1 (List.mem_of_getElem? (i := 184) rfl)) rfl
theorem bw_185 : (Cond.methodLink "BlindMint$Payment" 39 ({ cls := "BlindMint$Payment", name := "firstOfPart", desc := "(I)I" } : MethodName)) ∈ bm_big := bm_inT (bm_t1 (List.mem_of_getElem? (i := 185) rfl)) rfl
theorem bw_186 : (Cond.static ({ cls := "BlindMint$Payment", name := "firstOfPart", desc := "(I)I" } : MethodName)) ∈ bm_big := bm_inT (bm_t1 (List.mem_of_getElem? (i := 186) rfl)) rfl
theorem bw_187 : (Cond.code ({ cls := "BlindMint$Payment", name := "firstOfPart", desc := "(I)I" } : MethodName) prog_9_method_8_code 1 (Option.some FieldType.int)) ∈ bm_big := bm_inT (bm_t1 (List.mem_of_getElem? (i := 187) rfl)) rfl
theorem bw_188 : (Cond.methodLink "BlindMint$Payment" 61 ({ cls := "BlindMint$Hash", name := "of", desc := "(JJ)J" } : MethodName)) ∈ bm_big := bm_inT (bm_t1 (List.mem_of_getElem? (i := 188) rfl)) rfl
theorem bw_189 : (Cond.static ({ cls := "BlindMint$Hash", name := "of", desc := "(JJ)J" } : MethodName)) ∈ bm_big := bm_inT (bm_t1 (List.mem_of_getElem? (i := 189) rfl)) rfl
theorem bw_190 : (Cond.code ({ cls := "BlindMint$Hash", name := "of", desc := "(JJ)J" } : MethodName) prog_8_method_4_code 4 (Option.some FieldType.long)) ∈ bm_big := bm_inT (bm_t1 (List.mem_of_getElem? (i := 190) rfl)) rfl
theorem bw_191 : (Cond.constantLong "BlindMint$Hash" 15 (7)) ∈ bm_big := bm_inT (bm_t1 (List.mem_of_getElem? (i := 191) rfl)) rfl
theorem bw_192 : (Cond.methodLink "BlindMint$Hash" 17 ({ cls := "BlindMint$Hash", name := "step", desc := "(JJ)J" } : MethodName)) ∈ bm_big := bm_inT (bm_t1 (List.mem_of_getElem? (i := 192) rfl)) rfl
theorem bw_193 : (Cond.methodLink "BlindMint$Hash" 21 ({ cls := "BlindMint$Hash", name := "end", desc := "(J)J" } : MethodName)) ∈ bm_big := bm_inT (bm_t1 (List.mem_of_getElem? (i := 193) rfl)) rfl
theorem bw_195 : (Cond.static ({ cls := "BlindMint", name := "isOne", desc := "(JI)Z" } : MethodName)) ∈ bm_big := bm_inT (bm_t1 (List.mem_of_getElem? (i := 195) rfl)) rfl
theorem bw_196 : (Cond.code ({ cls := "BlindMint", name := "isOne", desc := "(JI)Z" } : MethodName) prog_1_method_18_code 3 (Option.some FieldType.boolean)) ∈ bm_big := bm_inT (bm_t1 (List.mem_of_getElem? (i := 196) rfl)) rfl
theorem bw_197 : (Cond.methodLink "BlindMint" 188 ({ cls := "BlindMint$Hash", name := "ofCoin", desc := "(J[J)J" } : MethodName)) ∈ bm_big := bm_inT (bm_t1 (List.mem_of_getElem? (i := 197) rfl)) rfl
theorem bw_198 : (Cond.static ({ cls := "BlindMint$Hash", name := "ofCoin", desc := "(J[J)J" } : MethodName)) ∈ bm_big := bm_inT (bm_t1 (List.mem_of_getElem? (i := 198) rfl)) rfl
theorem bw_199 : (Cond.code ({ cls := "BlindMint$Hash", name := "ofCoin", desc := "(J[J)J" } : MethodName) prog_8_method_5_code 10 (Option.some FieldType.long)) ∈ bm_big := bm_inT (bm_t1 (List.mem_of_getElem? (i := 199) rfl)) rfl
theorem bw_200 : (Cond.methodLink "BlindMint" 221 ({ cls := "BlindMint$Payment", name := "signatureNumber", desc := "()J" } : MethodName)) ∈ bm_big := bm_inT (bm_t1 (List.mem_of_getElem? (i := 200) rfl)) rfl
theorem bw_201 : (Cond.instanceMethod ({ cls := "BlindMint$Payment", name := "signatureNumber", desc := "()J" } : MethodName)) ∈ bm_big := bm_inT (bm_t1 (List.mem_of_getElem? (i := 201) rfl)) rfl
theorem bw_202 : (Cond.selects "BlindMint$Payment" ({ cls := "BlindMint$Payment", name := "signatureNumber", desc := "()J" } : MethodName) ({ cls := "BlindMint$Payment", name := "signatureNumber", desc := "()J" } : MethodName)) ∈ bm_big := bm_inT (bm_t1 (List.mem_of_getElem? (i := 202) rfl)) rfl
theorem bw_203 : (Cond.code ({ cls := "BlindMint$Payment", name := "signatureNumber", desc := "()J" } : MethodName) prog_9_method_4_code 1 (Option.some FieldType.long)) ∈ bm_big := bm_inT (bm_t1 (List.mem_of_getElem? (i := 203) rfl)) rfl
theorem bw_204 : (Cond.methodLink "BlindMint" 224 ({ cls := "BlindMint$Denomination", name := "isSignature", desc := "(JJ)Z" } : MethodName)) ∈ bm_big := bm_inT (bm_t1 (List.mem_of_getElem? (i := 204) rfl)) rfl
theorem bw_205 : (Cond.instanceMethod ({ cls := "BlindMint$Denomination", name := "isSignature", desc := "(JJ)Z" } : MethodName)) ∈ bm_big := bm_inT (bm_t1 (List.mem_of_getElem? (i := 205) rfl)) rfl
theorem bw_206 : (Cond.selects "BlindMint$Denomination" ({ cls := "BlindMint$Denomination", name := "isSignature", desc := "(JJ)Z" } : MethodName) ({ cls := "BlindMint$Denomination", name := "isSignature", desc := "(JJ)Z" } : MethodName)) ∈ bm_big := bm_inT (bm_t1 (List.mem_of_getElem? (i := 206) rfl)) rfl
theorem bw_207 : (Cond.code ({ cls := "BlindMint$Denomination", name := "isSignature", desc := "(JJ)Z" } : MethodName) prog_6_method_8_code 5 (Option.some FieldType.boolean)) ∈ bm_big := bm_inT (bm_t1 (List.mem_of_getElem? (i := 207) rfl)) rfl
theorem bw_208 : (Cond.constantLong "BlindMint$Denomination" 43 (17)) ∈ bm_big := bm_inT (bm_t1 (List.mem_of_getElem? (i := 208) rfl)) rfl
theorem bw_209 : (Cond.methodLink "BlindMint$Denomination" 45 ({ cls := "BlindMint$Field", name := "power", desc := "(JJJ)J" } : MethodName)) ∈ bm_big := bm_inT (bm_t1 (List.mem_of_getElem? (i := 209) rfl)) rfl
theorem bw_210 : (Cond.static ({ cls := "BlindMint$Field", name := "power", desc := "(JJJ)J" } : MethodName)) ∈ bm_big := bm_inT (bm_t1 (List.mem_of_getElem? (i := 210) rfl)) rfl
theorem bw_211 : (Cond.code ({ cls := "BlindMint$Field", name := "power", desc := "(JJJ)J" } : MethodName) prog_7_method_3_code 11 (Option.some FieldType.long)) ∈ bm_big := bm_inT (bm_t1 (List.mem_of_getElem? (i := 211) rfl)) rfl
theorem bw_213 : (Cond.methodLink "BlindMintLaw" 87 ({ cls := "BlindMint", name := "traced", desc := "()I" } : MethodName)) ∈ bm_big := bm_inT (bm_t1 (List.mem_of_getElem? (i := 213) rfl)) rfl
theorem bw_214 : (Cond.instanceMethod ({ cls := "BlindMint", name := "traced", desc := "()I" } : MethodName)) ∈ bm_big := bm_inT (bm_t1 (List.mem_of_getElem? (i := 214) rfl)) rfl
theorem bw_215 : (Cond.selects "BlindMint" ({ cls := "BlindMint", name := "traced", desc := "()I" } : MethodName) ({ cls := "BlindMint", name := "traced", desc := "()I" } : MethodName)) ∈ bm_big := bm_inT (bm_t1 (List.mem_of_getElem? (i := 215) rfl)) rfl
theorem bw_216 : (Cond.code ({ cls := "BlindMint", name := "traced", desc := "()I" } : MethodName) prog_1_method_9_code 1 (Option.some FieldType.int)) ∈ bm_big := bm_inT (bm_t1 (List.mem_of_getElem? (i := 216) rfl)) rfl
theorem bw_217 : (Cond.methodLink "BlindMintLaw" 95 ({ cls := "BlindMint", name := "coins", desc := "(I)I" } : MethodName)) ∈ bm_big := bm_inT (bm_t1 (List.mem_of_getElem? (i := 217) rfl)) rfl
theorem bw_218 : (Cond.instanceMethod ({ cls := "BlindMint", name := "coins", desc := "(I)I" } : MethodName)) ∈ bm_big := bm_inT (bm_t1 (List.mem_of_getElem? (i := 218) rfl)) rfl
theorem bw_219 : (Cond.selects "BlindMint" ({ cls := "BlindMint", name := "coins", desc := "(I)I" } : MethodName) ({ cls := "BlindMint", name := "coins", desc := "(I)I" } : MethodName)) ∈ bm_big := bm_inT (bm_t1 (List.mem_of_getElem? (i := 219) rfl)) rfl
theorem bw_220 : (Cond.code ({ cls := "BlindMint", name := "coins", desc := "(I)I" } : MethodName) prog_1_method_11_code 2 (Option.some FieldType.int)) ∈ bm_big := bm_inT (bm_t1 (List.mem_of_getElem? (i := 220) rfl)) rfl
theorem bw_221 : (Cond.methodLink "BlindMint" 62 ({ cls := "BlindMint", name := "isAccount", desc := "(I)Z" } : MethodName)) ∈ bm_big := bm_inT (bm_t1 (List.mem_of_getElem? (i := 221) rfl)) rfl
theorem bw_222 : (Cond.static ({ cls := "BlindMint", name := "isAccount", desc := "(I)Z" } : MethodName)) ∈ bm_big := bm_inT (bm_t1 (List.mem_of_getElem? (i := 222) rfl)) rfl
theorem bw_223 : (Cond.code ({ cls := "BlindMint", name := "isAccount", desc := "(I)Z" } : MethodName) prog_1_method_16_code 1 (Option.some FieldType.boolean)) ∈ bm_big := bm_inT (bm_t1 (List.mem_of_getElem? (i := 223) rfl)) rfl
theorem bw_224 : (Cond.methodLink "BlindMintLaw" 105 ({ cls := "BlindMint", name := "blinded", desc := "()J" } : MethodName)) ∈ bm_big := bm_inT (bm_t1 (List.mem_of_getElem? (i := 224) rfl)) rfl
theorem bw_225 : (Cond.instanceMethod ({ cls := "BlindMint", name := "blinded", desc := "()J" } : MethodName)) ∈ bm_big := bm_inT (bm_t1 (List.mem_of_getElem? (i := 225) rfl)) rfl
theorem bw_226 : (Cond.selects "BlindMint" ({ cls := "BlindMint", name := "blinded", desc := "()J" } : MethodName) ({ cls := "BlindMint", name := "blinded", desc := "()J" } : MethodName)) ∈ bm_big := bm_inT (bm_t1 (List.mem_of_getElem? (i := 226) rfl)) rfl
theorem bw_227 : (Cond.code ({ cls := "BlindMint", name := "blinded", desc := "()J" } : MethodName) prog_1_method_14_code 1 (Option.some FieldType.long)) ∈ bm_big := bm_inT (bm_t1 (List.mem_of_getElem? (i := 227) rfl)) rfl
theorem bw_228 : (Cond.methodLink "BlindMintLaw" 110 ({ cls := "BlindMint", name := "count", desc := "(I)I" } : MethodName)) ∈ bm_big := bm_inT (bm_t1 (List.mem_of_getElem? (i := 228) rfl)) rfl
theorem bw_229 : (Cond.instanceMethod ({ cls := "BlindMint", name := "count", desc := "(I)I" } : MethodName)) ∈ bm_big := bm_inT (bm_t1 (List.mem_of_getElem? (i := 229) rfl)) rfl
theorem bw_230 : (Cond.selects "BlindMint" ({ cls := "BlindMint", name := "count", desc := "(I)I" } : MethodName) ({ cls := "BlindMint", name := "count", desc := "(I)I" } : MethodName)) ∈ bm_big := bm_inT (bm_t1 (List.mem_of_getElem? (i := 230) rfl)) rfl
theorem bw_231 : (Cond.code ({ cls := "BlindMint", name := "count", desc := "(I)I" } : MethodName) prog_1_method_15_code 2 (Option.some FieldType.int)) ∈ bm_big := bm_inT (bm_t1 (List.mem_of_getElem? (i := 231) rfl)) rfl
theorem bw_232 : (Cond.methodLink "BlindMintLaw" 54 ({ cls := "BlindMintLaw", name := "withdraw", desc := "(LBlindMint;IIJI[J)I" } : MethodName)) ∈ bm_big := bm_inT (bm_t1 (List.mem_of_getElem? (i := 232) rfl)) rfl
theorem bw_233 : (Cond.static ({ cls := "BlindMintLaw", name := "withdraw", desc := "(LBlindMint;IIJI[J)I" } : MethodName)) ∈ bm_big := bm_inT (bm_t1 (List.mem_of_getElem? (i := 233) rfl)) rfl
theorem bw_235 : (Cond.classLink "BlindMintLaw" 13 "java/lang/IllegalArgumentException") ∈ bm_big := bm_inT (bm_t1 (List.mem_of_getElem? (i := 235) rfl)) rfl
theorem bw_236 : (Cond.classLink "BlindMintLaw" 15 "java/lang/IllegalStateException") ∈ bm_big := bm_inT (bm_t1 (List.mem_of_getElem? (i := 236) rfl)) rfl
theorem bw_237 : (Cond.methodLink "BlindMintLaw" 7 ({ cls := "BlindMint", name := "withdraw", desc := "(IIJI)I" } : MethodName)) ∈ bm_big := bm_inT (bm_t1 (List.mem_of_getElem? (i := 237) rfl)) rfl
theorem bw_238 : (Cond.instanceMethod ({ cls := "BlindMint", name := "withdraw", desc := "(IIJI)I" } : MethodName)) ∈ bm_big := bm_inT (bm_t1 (List.mem_of_getElem? (i := 238) rfl)) rfl
theorem bw_239 : (Cond.selects "BlindMint" ({ cls := "BlindMint", name := "withdraw", desc := "(IIJI)I" } : MethodName) ({ cls := "BlindMint", name := "withdraw", desc := "(IIJI)I" } : MethodName)) ∈ bm_big := bm_inT (bm_t1 (List.mem_of_getElem? (i := 239) rfl)) rfl
theorem bw_240 : (Cond.code ({ cls := "BlindMint", name := "withdraw", desc := "(IIJI)I" } : MethodName) prog_1_method_2_code 11 (Option.some FieldType.int)) ∈ bm_big := bm_inT (bm_t2 (List.mem_of_getElem? (i := 0) rfl)) rfl
theorem bw_241 : (Cond.classLink "BlindMint" 70 "java/lang/IllegalArgumentException") ∈ bm_big := bm_inT (bm_t2 (List.mem_of_getElem? (i := 1) rfl)) rfl
theorem bw_242 : (Cond.instantiable "java/lang/IllegalArgumentException" 6) ∈ bm_big := bm_inT (bm_t2 (List.mem_of_getElem? (i := 2) rfl)) rfl
theorem bw_250 : (Cond.selects "java/lang/IllegalArgumentException" ({ cls := "java/lang/Throwable", name := "fillInStackTrace", desc := "(I)Ljava/lang/Throwable;" } : MethodName) ({ cls := "java/lang/Throwable", name := "fillInStackTrace", desc := "(I)Ljava/lang/Throwable;" } : MethodName)) ∈ bm_big := bm_inT (bm_t2 (List.mem_of_getElem? (i := 10) rfl)) rfl
theorem bw_251 : (Cond.selects "java/lang/IllegalArgumentException" ({ cls := "java/lang/Throwable", name := "fillInStackTrace", desc := "()Ljava/lang/Throwable;" } : MethodName) ({ cls := "java/lang/Throwable", name := "fillInStackTrace", desc := "()Ljava/lang/Throwable;" } : MethodName)) ∈ bm_big := bm_inT (bm_t2 (List.mem_of_getElem? (i := 11) rfl)) rfl
theorem bw_252 : (Cond.lays "java/lang/IllegalArgumentException" "java/lang/Throwable" "cause" "Ljava/lang/Throwable;") ∈ bm_big := bm_inT (bm_t2 (List.mem_of_getElem? (i := 12) rfl)) rfl
theorem bw_253 : (Cond.lays "java/lang/Throwable" "java/lang/Throwable" "cause" "Ljava/lang/Throwable;") ∈ bm_big := bm_inT (bm_t2 (List.mem_of_getElem? (i := 13) rfl)) rfl
theorem bw_254 : (Cond.lays "java/lang/IllegalArgumentException" "java/lang/Throwable" "stackTrace" "[Ljava/lang/StackTraceElement;") ∈ bm_big := bm_inT (bm_t2 (List.mem_of_getElem? (i := 14) rfl)) rfl
theorem bw_255 : (Cond.lays "java/lang/Throwable" "java/lang/Throwable" "stackTrace" "[Ljava/lang/StackTraceElement;") ∈ bm_big := bm_inT (bm_t2 (List.mem_of_getElem? (i := 15) rfl)) rfl
theorem bw_256 : (Cond.lays "java/lang/IllegalArgumentException" "java/lang/Throwable" "suppressedExceptions" "Ljava/util/List;") ∈ bm_big := bm_inT (bm_t2 (List.mem_of_getElem? (i := 16) rfl)) rfl
theorem bw_257 : (Cond.lays "java/lang/Throwable" "java/lang/Throwable" "suppressedExceptions" "Ljava/util/List;") ∈ bm_big := bm_inT (bm_t2 (List.mem_of_getElem? (i := 17) rfl)) rfl
theorem bw_258 : (Cond.lays "java/lang/IllegalArgumentException" "java/lang/Throwable" "detailMessage" "Ljava/lang/String;") ∈ bm_big := bm_inT (bm_t2 (List.mem_of_getElem? (i := 18) rfl)) rfl
theorem bw_259 : (Cond.lays "java/lang/Throwable" "java/lang/Throwable" "detailMessage" "Ljava/lang/String;") ∈ bm_big := bm_inT (bm_t2 (List.mem_of_getElem? (i := 19) rfl)) rfl
theorem bw_260 : (Cond.lays "java/lang/IllegalArgumentException" "java/lang/Throwable" "backtrace" "Ljava/lang/Object;") ∈ bm_big := bm_inT (bm_t2 (List.mem_of_getElem? (i := 20) rfl)) rfl
theorem bw_261 : (Cond.lays "java/lang/Throwable" "java/lang/Throwable" "backtrace" "Ljava/lang/Object;") ∈ bm_big := bm_inT (bm_t2 (List.mem_of_getElem? (i := 21) rfl)) rfl
theorem bw_262 : (Cond.fieldLink "java/lang/Throwable" 198 "java/lang/Throwable" "backtrace" "Ljava/lang/Object;") ∈ bm_big := bm_inT (bm_t2 (List.mem_of_getElem? (i := 22) rfl)) rfl
theorem bw_264 : (Cond.instanceMethod ({ cls := "java/lang/Throwable", name := "<init>", desc := "()V" } : MethodName)) ∈ bm_big := bm_inT (bm_t2 (List.mem_of_getElem? (i := 24) rfl)) rfl
theorem bw_265 : (Cond.code ({ cls := "java/lang/Throwable", name := "<init>", desc := "()V" } : MethodName) prog_21_method_1_code 1 (Option.none : Option Jvm.ClassFile.FieldType)) ∈ bm_big := bm_inT (bm_t2 (List.mem_of_getElem? (i := 25) rfl)) rfl
theorem bw_266 : (Cond.methodLink "java/lang/Throwable" 1 ({ cls := "java/lang/Object", name := "<init>", desc := "()V" } : MethodName)) ∈ bm_big := bm_inT (bm_t2 (List.mem_of_getElem? (i := 26) rfl)) rfl
theorem bw_267 : (Cond.fieldLink "java/lang/Throwable" 13 "java/lang/Throwable" "UNASSIGNED_STACK" "[Ljava/lang/StackTraceElement;") ∈ bm_big := bm_inT (bm_t2 (List.mem_of_getElem? (i := 27) rfl)) rfl
theorem bw_269 : (Cond.fieldLink "java/lang/Throwable" 20 "java/lang/Throwable" "SUPPRESSED_SENTINEL" "Ljava/util/List;") ∈ bm_big := bm_inT (bm_t2 (List.mem_of_getElem? (i := 29) rfl)) rfl
theorem bw_271 : (Cond.methodLink "java/lang/Throwable" 27 ({ cls := "java/lang/Throwable", name := "fillInStackTrace", desc := "()Ljava/lang/Throwable;" } : MethodName)) ∈ bm_big := bm_inT (bm_t2 (List.mem_of_getElem? (i := 31) rfl)) rfl
theorem bw_272 : (Cond.instanceMethod ({ cls := "java/lang/Throwable", name := "fillInStackTrace", desc := "()Ljava/lang/Throwable;" } : MethodName)) ∈ bm_big := bm_inT (bm_t2 (List.mem_of_getElem? (i := 32) rfl)) rfl
theorem bw_273 : (Cond.sameMethod "java/lang/Throwable" "java/lang/Throwable" "fillInStackTrace" "()Ljava/lang/Throwable;") ∈ bm_big := bm_inT (bm_t2 (List.mem_of_getElem? (i := 33) rfl)) rfl
theorem bw_274 : (Cond.selects "java/lang/IllegalStateException" ({ cls := "java/lang/Throwable", name := "fillInStackTrace", desc := "()Ljava/lang/Throwable;" } : MethodName) ({ cls := "java/lang/Throwable", name := "fillInStackTrace", desc := "()Ljava/lang/Throwable;" } : MethodName)) ∈ bm_big := bm_inT (bm_t2 (List.mem_of_getElem? (i := 34) rfl)) rfl
theorem bw_275 : (Cond.selects "java/util/NoSuchElementException" ({ cls := "java/lang/Throwable", name := "fillInStackTrace", desc := "()Ljava/lang/Throwable;" } : MethodName) ({ cls := "java/lang/Throwable", name := "fillInStackTrace", desc := "()Ljava/lang/Throwable;" } : MethodName)) ∈ bm_big := bm_inT (bm_t2 (List.mem_of_getElem? (i := 35) rfl)) rfl
theorem bw_277 : (Cond.methodLink "java/lang/Throwable" 202 ({ cls := "java/lang/Throwable", name := "fillInStackTrace", desc := "(I)Ljava/lang/Throwable;" } : MethodName)) ∈ bm_big := bm_inT (bm_t2 (List.mem_of_getElem? (i := 37) rfl)) rfl
theorem bw_279 : (Cond.instanceMethod ({ cls := "java/lang/Throwable", name := "fillInStackTrace", desc := "(I)Ljava/lang/Throwable;" } : MethodName)) ∈ bm_big := bm_inT (bm_t2 (List.mem_of_getElem? (i := 39) rfl)) rfl
theorem bw_280 : (Cond.instantiable "java/lang/Throwable" 6) ∈ bm_big := bm_inT (bm_t2 (List.mem_of_getElem? (i := 40) rfl)) rfl
theorem bw_281 : (Cond.native ({ cls := "java/lang/Throwable", name := "fillInStackTrace", desc := "(I)Ljava/lang/Throwable;" } : MethodName)) ∈ bm_big := bm_inT (bm_t2 (List.mem_of_getElem? (i := 41) rfl)) rfl
theorem bw_282 : (Cond.methodLink "BlindMint" 72 ({ cls := "java/lang/IllegalArgumentException", name := "<init>", desc := "()V" } : MethodName)) ∈ bm_big := bm_inT (bm_t2 (List.mem_of_getElem? (i := 42) rfl)) rfl
theorem bw_283 : (Cond.instanceMethod ({ cls := "java/lang/IllegalArgumentException", name := "<init>", desc := "()V" } : MethodName)) ∈ bm_big := bm_inT (bm_t2 (List.mem_of_getElem? (i := 43) rfl)) rfl
theorem bw_284 : (Cond.code ({ cls := "java/lang/IllegalArgumentException", name := "<init>", desc := "()V" } : MethodName) prog_16_method_1_code 1 (Option.none : Option Jvm.ClassFile.FieldType)) ∈ bm_big := bm_inT (bm_t2 (List.mem_of_getElem? (i := 44) rfl)) rfl
theorem bw_285 : (Cond.methodLink "java/lang/IllegalArgumentException" 1 ({ cls := "java/lang/RuntimeException", name := "<init>", desc := "()V" } : MethodName)) ∈ bm_big := bm_inT (bm_t2 (List.mem_of_getElem? (i := 45) rfl)) rfl
theorem bw_286 : (Cond.instanceMethod ({ cls := "java/lang/RuntimeException", name := "<init>", desc := "()V" } : MethodName)) ∈ bm_big := bm_inT (bm_t2 (List.mem_of_getElem? (i := 46) rfl)) rfl
theorem bw_287 : (Cond.code ({ cls := "java/lang/RuntimeException", name := "<init>", desc := "()V" } : MethodName) prog_19_method_1_code 1 (Option.none : Option Jvm.ClassFile.FieldType)) ∈ bm_big := bm_inT (bm_t2 (List.mem_of_getElem? (i := 47) rfl)) rfl
theorem bw_288 : (Cond.methodLink "java/lang/RuntimeException" 1 ({ cls := "java/lang/Exception", name := "<init>", desc := "()V" } : MethodName)) ∈ bm_big := bm_inT (bm_t2 (List.mem_of_getElem? (i := 48) rfl)) rfl
theorem bw_289 : (Cond.instanceMethod ({ cls := "java/lang/Exception", name := "<init>", desc := "()V" } : MethodName)) ∈ bm_big := bm_inT (bm_t2 (List.mem_of_getElem? (i := 49) rfl)) rfl
theorem bw_290 : (Cond.code ({ cls := "java/lang/Exception", name := "<init>", desc := "()V" } : MethodName) prog_15_method_1_code 1 (Option.none : Option Jvm.ClassFile.FieldType)) ∈ bm_big := bm_inT (bm_t2 (List.mem_of_getElem? (i := 50) rfl)) rfl
theorem bw_291 : (Cond.methodLink "java/lang/Exception" 1 ({ cls := "java/lang/Throwable", name := "<init>", desc := "()V" } : MethodName)) ∈ bm_big := bm_inT (bm_t2 (List.mem_of_getElem? (i := 51) rfl)) rfl
theorem bw_292 : (Cond.fieldLink "java/lang/Throwable" 198 "java/lang/Throwable" "backtrace" "Ljava/lang/Object;") ∈ bm_big := bm_inT (bm_t2 (List.mem_of_getElem? (i := 52) rfl)) rfl
theorem bw_293 : (Cond.fieldLink "java/lang/Throwable" 7 "java/lang/Throwable" "cause" "Ljava/lang/Throwable;") ∈ bm_big := bm_inT (bm_t2 (List.mem_of_getElem? (i := 53) rfl)) rfl
theorem bw_294 : (Cond.fieldLink "java/lang/Throwable" 17 "java/lang/Throwable" "stackTrace" "[Ljava/lang/StackTraceElement;") ∈ bm_big := bm_inT (bm_t2 (List.mem_of_getElem? (i := 54) rfl)) rfl
theorem bw_295 : (Cond.fieldLink "java/lang/Throwable" 24 "java/lang/Throwable" "suppressedExceptions" "Ljava/util/List;") ∈ bm_big := bm_inT (bm_t2 (List.mem_of_getElem? (i := 55) rfl)) rfl
theorem bw_300 : (Cond.lays "java/lang/IllegalArgumentException" "java/lang/Throwable" "depth" "I") ∈ bm_big := bm_inT (bm_t2 (List.mem_of_getElem? (i := 60) rfl)) rfl
theorem bw_304 : (Cond.methodLink "BlindMint" 85 ({ cls := "BlindMint$Account", name := "isWalletFull", desc := "()Z" } : MethodName)) ∈ bm_big := bm_inT (bm_t2 (List.mem_of_getElem? (i := 64) rfl)) rfl
theorem bw_305 : (Cond.instanceMethod ({ cls := "BlindMint$Account", name := "isWalletFull", desc := "()Z" } : MethodName)) ∈ bm_big := bm_inT (bm_t2 (List.mem_of_getElem? (i := 65) rfl)) rfl
theorem bw_306 : (Cond.selects "BlindMint$Account" ({ cls := "BlindMint$Account", name := "isWalletFull", desc := "()Z" } : MethodName) ({ cls := "BlindMint$Account", name := "isWalletFull", desc := "()Z" } : MethodName)) ∈ bm_big := bm_inT (bm_t2 (List.mem_of_getElem? (i := 66) rfl)) rfl
theorem bw_307 : (Cond.code ({ cls := "BlindMint$Account", name := "isWalletFull", desc := "()Z" } : MethodName) prog_2_method_2_code 1 (Option.some FieldType.boolean)) ∈ bm_big := bm_inT (bm_t2 (List.mem_of_getElem? (i := 67) rfl)) rfl
theorem bw_308 : (Cond.classLink "BlindMint" 89 "java/lang/IllegalStateException") ∈ bm_big := bm_inT (bm_t2 (List.mem_of_getElem? (i := 68) rfl)) rfl
theorem bw_309 : (Cond.instantiable "java/lang/IllegalStateException" 6) ∈ bm_big := bm_inT (bm_t2 (List.mem_of_getElem? (i := 69) rfl)) rfl
theorem bw_311 : (Cond.selects "java/lang/IllegalStateException" ({ cls := "java/lang/Throwable", name := "fillInStackTrace", desc := "(I)Ljava/lang/Throwable;" } : MethodName) ({ cls := "java/lang/Throwable", name := "fillInStackTrace", desc := "(I)Ljava/lang/Throwable;" } : MethodName)) ∈ bm_big := bm_inT (bm_t2 (List.mem_of_getElem? (i := 71) rfl)) rfl
theorem bw_312 : (Cond.lays "java/lang/IllegalStateException" "java/lang/Throwable" "cause" "Ljava/lang/Throwable;") ∈ bm_big := bm_inT (bm_t2 (List.mem_of_getElem? (i := 72) rfl)) rfl
theorem bw_313 : (Cond.lays "java/lang/IllegalStateException" "java/lang/Throwable" "stackTrace" "[Ljava/lang/StackTraceElement;") ∈ bm_big := bm_inT (bm_t2 (List.mem_of_getElem? (i := 73) rfl)) rfl
theorem bw_314 : (Cond.lays "java/lang/IllegalStateException" "java/lang/Throwable" "suppressedExceptions" "Ljava/util/List;") ∈ bm_big := bm_inT (bm_t2 (List.mem_of_getElem? (i := 74) rfl)) rfl
theorem bw_315 : (Cond.lays "java/lang/IllegalStateException" "java/lang/Throwable" "detailMessage" "Ljava/lang/String;") ∈ bm_big := bm_inT (bm_t2 (List.mem_of_getElem? (i := 75) rfl)) rfl
theorem bw_316 : (Cond.lays "java/lang/IllegalStateException" "java/lang/Throwable" "backtrace" "Ljava/lang/Object;") ∈ bm_big := bm_inT (bm_t2 (List.mem_of_getElem? (i := 76) rfl)) rfl
theorem bw_317 : (Cond.methodLink "BlindMint" 91 ({ cls := "java/lang/IllegalStateException", name := "<init>", desc := "()V" } : MethodName)) ∈ bm_big := bm_inT (bm_t2 (List.mem_of_getElem? (i := 77) rfl)) rfl
theorem bw_318 : (Cond.instanceMethod ({ cls := "java/lang/IllegalStateException", name := "<init>", desc := "()V" } : MethodName)) ∈ bm_big := bm_inT (bm_t2 (List.mem_of_getElem? (i := 78) rfl)) rfl
theorem bw_319 : (Cond.code ({ cls := "java/lang/IllegalStateException", name := "<init>", desc := "()V" } : MethodName) prog_17_method_1_code 1 (Option.none : Option Jvm.ClassFile.FieldType)) ∈ bm_big := bm_inT (bm_t2 (List.mem_of_getElem? (i := 79) rfl)) rfl
theorem bw_320 : (Cond.methodLink "java/lang/IllegalStateException" 1 ({ cls := "java/lang/RuntimeException", name := "<init>", desc := "()V" } : MethodName)) ∈ bm_big := bm_inT (bm_t2 (List.mem_of_getElem? (i := 80) rfl)) rfl
theorem bw_321 : (Cond.lays "java/lang/IllegalStateException" "java/lang/Throwable" "depth" "I") ∈ bm_big := bm_inT (bm_t2 (List.mem_of_getElem? (i := 81) rfl)) rfl
theorem bw_323 : (Cond.methodLink "BlindMint" 92 ({ cls := "BlindMint$Proposal", name := "make", desc := "(JJI)V" } : MethodName)) ∈ bm_big := bm_inT (bm_t2 (List.mem_of_getElem? (i := 83) rfl)) rfl
theorem bw_324 : (Cond.instanceMethod ({ cls := "BlindMint$Proposal", name := "make", desc := "(JJI)V" } : MethodName)) ∈ bm_big := bm_inT (bm_t2 (List.mem_of_getElem? (i := 84) rfl)) rfl
theorem bw_325 : (Cond.selects "BlindMint$Proposal" ({ cls := "BlindMint$Proposal", name := "make", desc := "(JJI)V" } : MethodName) ({ cls := "BlindMint$Proposal", name := "make", desc := "(JJI)V" } : MethodName)) ∈ bm_big := bm_inT (bm_t2 (List.mem_of_getElem? (i := 85) rfl)) rfl
theorem bw_326 : (Cond.code ({ cls := "BlindMint$Proposal", name := "make", desc := "(JJI)V" } : MethodName) prog_10_method_2_code 7 (Option.none : Option Jvm.ClassFile.FieldType)) ∈ bm_big := bm_inT (bm_t2 (List.mem_of_getElem? (i := 86) rfl)) rfl
theorem bw_327 : (Cond.methodLink "BlindMint$Proposal" 28 ({ cls := "BlindMint$Candidate", name := "make", desc := "(JIJ)V" } : MethodName)) ∈ bm_big := bm_inT (bm_t2 (List.mem_of_getElem? (i := 87) rfl)) rfl
theorem bw_328 : (Cond.instanceMethod ({ cls := "BlindMint$Candidate", name := "make", desc := "(JIJ)V" } : MethodName)) ∈ bm_big := bm_inT (bm_t2 (List.mem_of_getElem? (i := 88) rfl)) rfl
theorem bw_329 : (Cond.selects "BlindMint$Candidate" ({ cls := "BlindMint$Candidate", name := "make", desc := "(JIJ)V" } : MethodName) ({ cls := "BlindMint$Candidate", name := "make", desc := "(JIJ)V" } : MethodName)) ∈ bm_big := bm_inT (bm_t2 (List.mem_of_getElem? (i := 89) rfl)) rfl
theorem bw_330 : (Cond.code ({ cls := "BlindMint$Candidate", name := "make", desc := "(JIJ)V" } : MethodName) prog_3_method_2_code 6 (Option.none : Option Jvm.ClassFile.FieldType)) ∈ bm_big := bm_inT (bm_t2 (List.mem_of_getElem? (i := 90) rfl)) rfl
theorem bw_331 : (Cond.methodLink "BlindMint$Candidate" 7 ({ cls := "BlindMint$Hash", name := "of", desc := "(JJ)J" } : MethodName)) ∈ bm_big := bm_inT (bm_t2 (List.mem_of_getElem? (i := 91) rfl)) rfl
theorem bw_332 : (Cond.methodLink "BlindMint$Proposal" 32 ({ cls := "BlindMint$Proposal", name := "open", desc := "()V" } : MethodName)) ∈ bm_big := bm_inT (bm_t2 (List.mem_of_getElem? (i := 92) rfl)) rfl
theorem bw_334 : (Cond.instanceMethod ({ cls := "BlindMint$Proposal", name := "open", desc := "()V" } : MethodName)) ∈ bm_big := bm_inT (bm_t2 (List.mem_of_getElem? (i := 94) rfl)) rfl
theorem bw_335 : (Cond.code ({ cls := "BlindMint$Proposal", name := "open", desc := "()V" } : MethodName) prog_10_method_5_code 6 (Option.none : Option Jvm.ClassFile.FieldType)) ∈ bm_big := bm_inT (bm_t2 (List.mem_of_getElem? (i := 95) rfl)) rfl
theorem bw_336 : (Cond.constantLong "BlindMint$Proposal" 48 (7)) ∈ bm_big := bm_inT (bm_t2 (List.mem_of_getElem? (i := 96) rfl)) rfl
theorem bw_337 : (Cond.methodLink "BlindMint$Proposal" 50 ({ cls := "BlindMint$Hash", name := "step", desc := "(JJ)J" } : MethodName)) ∈ bm_big := bm_inT (bm_t2 (List.mem_of_getElem? (i := 97) rfl)) rfl
theorem bw_338 : (Cond.methodLink "BlindMint$Proposal" 54 ({ cls := "BlindMint$Hash", name := "end", desc := "(J)J" } : MethodName)) ∈ bm_big := bm_inT (bm_t2 (List.mem_of_getElem? (i := 98) rfl)) rfl
theorem bw_339 : (Cond.constantLong "BlindMint$Proposal" 58 (6)) ∈ bm_big := bm_inT (bm_t2 (List.mem_of_getElem? (i := 99) rfl)) rfl
theorem bw_340 : (Cond.constantLong "BlindMint$Proposal" 60 (5)) ∈ bm_big := bm_inT (bm_t2 (List.mem_of_getElem? (i := 100) rfl)) rfl
theorem bw_341 : (Cond.methodLink "BlindMint$Proposal" 35 ({ cls := "BlindMint$Proposal", name := "sortParts", desc := "()V" } : MethodName)) ∈ bm_big := bm_inT (bm_t2 (List.mem_of_getElem? (i := 101) rfl)) rfl
theorem bw_343 : (Cond.instanceMethod ({ cls := "BlindMint$Proposal", name := "sortParts", desc := "()V" } : MethodName)) ∈ bm_big := bm_inT (bm_t2 (List.mem_of_getElem? (i := 103) rfl)) rfl
theorem bw_344 : (Cond.code ({ cls := "BlindMint$Proposal", name := "sortParts", desc := "()V" } : MethodName) prog_10_method_6_code 3 (Option.none : Option Jvm.ClassFile.FieldType)) ∈ bm_big := bm_inT (bm_t2 (List.mem_of_getElem? (i := 104) rfl)) rfl
theorem bw_345 : (Cond.methodLink "BlindMint$Proposal" 62 ({ cls := "BlindMint$Proposal", name := "insertPart", desc := "(LBlindMint$Candidate;I)V" } : MethodName)) ∈ bm_big := bm_inT (bm_t2 (List.mem_of_getElem? (i := 105) rfl)) rfl
theorem bw_347 : (Cond.instanceMethod ({ cls := "BlindMint$Proposal", name := "insertPart", desc := "(LBlindMint$Candidate;I)V" } : MethodName)) ∈ bm_big := bm_inT (bm_t2 (List.mem_of_getElem? (i := 107) rfl)) rfl
theorem bw_348 : (Cond.code ({ cls := "BlindMint$Proposal", name := "insertPart", desc := "(LBlindMint$Candidate;I)V" } : MethodName) prog_10_method_7_code 4 (Option.none : Option Jvm.ClassFile.FieldType)) ∈ bm_big := bm_inT (bm_t2 (List.mem_of_getElem? (i := 108) rfl)) rfl
theorem bw_349 : (Cond.methodLink "BlindMint" 96 ({ cls := "BlindMint$Proposal", name := "openedCheats", desc := "(J)I" } : MethodName)) ∈ bm_big := bm_inT (bm_t2 (List.mem_of_getElem? (i := 109) rfl)) rfl
theorem bw_350 : (Cond.instanceMethod ({ cls := "BlindMint$Proposal", name := "openedCheats", desc := "(J)I" } : MethodName)) ∈ bm_big := bm_inT (bm_t2 (List.mem_of_getElem? (i := 110) rfl)) rfl
theorem bw_351 : (Cond.selects "BlindMint$Proposal" ({ cls := "BlindMint$Proposal", name := "openedCheats", desc := "(J)I" } : MethodName) ({ cls := "BlindMint$Proposal", name := "openedCheats", desc := "(J)I" } : MethodName)) ∈ bm_big := bm_inT (bm_t2 (List.mem_of_getElem? (i := 111) rfl)) rfl
theorem bw_352 : (Cond.code ({ cls := "BlindMint$Proposal", name := "openedCheats", desc := "(J)I" } : MethodName) prog_10_method_3_code 3 (Option.some FieldType.int)) ∈ bm_big := bm_inT (bm_t2 (List.mem_of_getElem? (i := 112) rfl)) rfl
theorem bw_353 : (Cond.methodLink "BlindMint$Proposal" 38 ({ cls := "BlindMint$Candidate", name := "hides", desc := "(J)Z" } : MethodName)) ∈ bm_big := bm_inT (bm_t2 (List.mem_of_getElem? (i := 113) rfl)) rfl
theorem bw_354 : (Cond.instanceMethod ({ cls := "BlindMint$Candidate", name := "hides", desc := "(J)Z" } : MethodName)) ∈ bm_big := bm_inT (bm_t2 (List.mem_of_getElem? (i := 114) rfl)) rfl
theorem bw_355 : (Cond.selects "BlindMint$Candidate" ({ cls := "BlindMint$Candidate", name := "hides", desc := "(J)Z" } : MethodName) ({ cls := "BlindMint$Candidate", name := "hides", desc := "(J)Z" } : MethodName)) ∈ bm_big := bm_inT (bm_t2 (List.mem_of_getElem? (i := 115) rfl)) rfl
theorem bw_356 : (Cond.code ({ cls := "BlindMint$Candidate", name := "hides", desc := "(J)Z" } : MethodName) prog_3_method_3_code 3 (Option.some FieldType.boolean)) ∈ bm_big := bm_inT (bm_t2 (List.mem_of_getElem? (i := 116) rfl)) rfl
theorem bw_357 : (Cond.methodLink "BlindMint" 100 ({ cls := "BlindMint", name := "makeCoin", desc := "(IJ)LBlindMint$Coin;" } : MethodName)) ∈ bm_big := bm_inT (bm_t2 (List.mem_of_getElem? (i := 117) rfl)) rfl
theorem bw_359 : (Cond.instanceMethod ({ cls := "BlindMint", name := "makeCoin", desc := "(IJ)LBlindMint$Coin;" } : MethodName)) ∈ bm_big := bm_inT (bm_t2 (List.mem_of_getElem? (i := 119) rfl)) rfl
theorem bw_360 : (Cond.code ({ cls := "BlindMint", name := "makeCoin", desc := "(IJ)LBlindMint$Coin;" } : MethodName) prog_1_method_22_code 11 (Option.some (FieldType.object "BlindMint$Coin"))) ∈ bm_big := bm_inT (bm_t2 (List.mem_of_getElem? (i := 120) rfl)) rfl
theorem bw_361 : (Cond.methodLink "BlindMint" 184 ({ cls := "BlindMint$Proposal", name := "readPairHashes", desc := "([J)V" } : MethodName)) ∈ bm_big := bm_inT (bm_t2 (List.mem_of_getElem? (i := 121) rfl)) rfl
theorem bw_362 : (Cond.instanceMethod ({ cls := "BlindMint$Proposal", name := "readPairHashes", desc := "([J)V" } : MethodName)) ∈ bm_big := bm_inT (bm_t2 (List.mem_of_getElem? (i := 122) rfl)) rfl
theorem bw_363 : (Cond.selects "BlindMint$Proposal" ({ cls := "BlindMint$Proposal", name := "readPairHashes", desc := "([J)V" } : MethodName) ({ cls := "BlindMint$Proposal", name := "readPairHashes", desc := "([J)V" } : MethodName)) ∈ bm_big := bm_inT (bm_t2 (List.mem_of_getElem? (i := 123) rfl)) rfl
theorem bw_364 : (Cond.code ({ cls := "BlindMint$Proposal", name := "readPairHashes", desc := "([J)V" } : MethodName) prog_10_method_4_code 3 (Option.none : Option Jvm.ClassFile.FieldType)) ∈ bm_big := bm_inT (bm_t2 (List.mem_of_getElem? (i := 124) rfl)) rfl
theorem bw_365 : (Cond.constantLong "BlindMint" 194 (100)) ∈ bm_big := bm_inT (bm_t2 (List.mem_of_getElem? (i := 125) rfl)) rfl
theorem bw_366 : (Cond.methodLink "BlindMint" 196 ({ cls := "BlindMint$Hash", name := "of", desc := "(JJ)J" } : MethodName)) ∈ bm_big := bm_inT (bm_t2 (List.mem_of_getElem? (i := 126) rfl)) rfl
theorem bw_367 : (Cond.methodLink "BlindMint" 200 ({ cls := "BlindMint$Denomination", name := "blindingFactor", desc := "(J)J" } : MethodName)) ∈ bm_big := bm_inT (bm_t2 (List.mem_of_getElem? (i := 127) rfl)) rfl
theorem bw_368 : (Cond.instanceMethod ({ cls := "BlindMint$Denomination", name := "blindingFactor", desc := "(J)J" } : MethodName)) ∈ bm_big := bm_inT (bm_t2 (List.mem_of_getElem? (i := 128) rfl)) rfl
theorem bw_369 : (Cond.selects "BlindMint$Denomination" ({ cls := "BlindMint$Denomination", name := "blindingFactor", desc := "(J)J" } : MethodName) ({ cls := "BlindMint$Denomination", name := "blindingFactor", desc := "(J)J" } : MethodName)) ∈ bm_big := bm_inT (bm_t2 (List.mem_of_getElem? (i := 129) rfl)) rfl
theorem bw_370 : (Cond.code ({ cls := "BlindMint$Denomination", name := "blindingFactor", desc := "(J)J" } : MethodName) prog_6_method_4_code 6 (Option.some FieldType.long)) ∈ bm_big := bm_inT (bm_t2 (List.mem_of_getElem? (i := 130) rfl)) rfl
theorem bw_371 : (Cond.methodLink "BlindMint" 204 ({ cls := "BlindMint$Denomination", name := "blind", desc := "(JJ)J" } : MethodName)) ∈ bm_big := bm_inT (bm_t2 (List.mem_of_getElem? (i := 131) rfl)) rfl
theorem bw_372 : (Cond.instanceMethod ({ cls := "BlindMint$Denomination", name := "blind", desc := "(JJ)J" } : MethodName)) ∈ bm_big := bm_inT (bm_t2 (List.mem_of_getElem? (i := 132) rfl)) rfl
theorem bw_373 : (Cond.selects "BlindMint$Denomination" ({ cls := "BlindMint$Denomination", name := "blind", desc := "(JJ)J" } : MethodName) ({ cls := "BlindMint$Denomination", name := "blind", desc := "(JJ)J" } : MethodName)) ∈ bm_big := bm_inT (bm_t2 (List.mem_of_getElem? (i := 133) rfl)) rfl
theorem bw_374 : (Cond.code ({ cls := "BlindMint$Denomination", name := "blind", desc := "(JJ)J" } : MethodName) prog_6_method_5_code 5 (Option.some FieldType.long)) ∈ bm_big := bm_inT (bm_t2 (List.mem_of_getElem? (i := 134) rfl)) rfl
theorem bw_375 : (Cond.methodLink "BlindMint$Denomination" 51 ({ cls := "BlindMint$Field", name := "multiply", desc := "(JJJ)J" } : MethodName)) ∈ bm_big := bm_inT (bm_t2 (List.mem_of_getElem? (i := 135) rfl)) rfl
theorem bw_376 : (Cond.static ({ cls := "BlindMint$Field", name := "multiply", desc := "(JJJ)J" } : MethodName)) ∈ bm_big := bm_inT (bm_t2 (List.mem_of_getElem? (i := 136) rfl)) rfl
theorem bw_377 : (Cond.code ({ cls := "BlindMint$Field", name := "multiply", desc := "(JJJ)J" } : MethodName) prog_7_method_2_code 6 (Option.some FieldType.long)) ∈ bm_big := bm_inT (bm_t2 (List.mem_of_getElem? (i := 137) rfl)) rfl
theorem bw_378 : (Cond.methodLink "BlindMint$Denomination" 54 ({ cls := "BlindMint$Denomination", name := "join", desc := "(JJ)J" } : MethodName)) ∈ bm_big := bm_inT (bm_t2 (List.mem_of_getElem? (i := 138) rfl)) rfl
theorem bw_380 : (Cond.instanceMethod ({ cls := "BlindMint$Denomination", name := "join", desc := "(JJ)J" } : MethodName)) ∈ bm_big := bm_inT (bm_t2 (List.mem_of_getElem? (i := 140) rfl)) rfl
theorem bw_381 : (Cond.instantiable "BlindMint$Denomination" 6) ∈ bm_big := bm_inT (bm_t2 (List.mem_of_getElem? (i := 141) rfl)) rfl
theorem bw_382 : (Cond.code ({ cls := "BlindMint$Denomination", name := "join", desc := "(JJ)J" } : MethodName) prog_6_method_9_code 7 (Option.some FieldType.long)) ∈ bm_big := bm_inT (bm_t2 (List.mem_of_getElem? (i := 142) rfl)) rfl
theorem bw_383 : (Cond.methodLink "BlindMint$Denomination" 64 ({ cls := "java/lang/Math", name := "floorMod", desc := "(JJ)J" } : MethodName)) ∈ bm_big := bm_inT (bm_t2 (List.mem_of_getElem? (i := 143) rfl)) rfl
theorem bw_384 : (Cond.static ({ cls := "java/lang/Math", name := "floorMod", desc := "(JJ)J" } : MethodName)) ∈ bm_big := bm_inT (bm_t2 (List.mem_of_getElem? (i := 144) rfl)) rfl
theorem bw_385 : (Cond.code ({ cls := "java/lang/Math", name := "floorMod", desc := "(JJ)J" } : MethodName) prog_18_method_52_code 6 (Option.some FieldType.long)) ∈ bm_big := bm_inT (bm_t2 (List.mem_of_getElem? (i := 145) rfl)) rfl
theorem bw_386 : (Cond.methodLink "BlindMint$Denomination" 61 ({ cls := "BlindMint$Field", name := "divide", desc := "(JJJ)J" } : MethodName)) ∈ bm_big := bm_inT (bm_t2 (List.mem_of_getElem? (i := 146) rfl)) rfl
theorem bw_387 : (Cond.static ({ cls := "BlindMint$Field", name := "divide", desc := "(JJJ)J" } : MethodName)) ∈ bm_big := bm_inT (bm_t2 (List.mem_of_getElem? (i := 147) rfl)) rfl
theorem bw_388 : (Cond.code ({ cls := "BlindMint$Field", name := "divide", desc := "(JJJ)J" } : MethodName) prog_7_method_4_code 6 (Option.some FieldType.long)) ∈ bm_big := bm_inT (bm_t2 (List.mem_of_getElem? (i := 148) rfl)) rfl
theorem bw_389 : (Cond.constantLong "BlindMint$Field" 15 (2)) ∈ bm_big := bm_inT (bm_t2 (List.mem_of_getElem? (i := 149) rfl)) rfl
theorem bw_390 : (Cond.methodLink "BlindMint$Field" 17 ({ cls := "BlindMint$Field", name := "power", desc := "(JJJ)J" } : MethodName)) ∈ bm_big := bm_inT (bm_t2 (List.mem_of_getElem? (i := 150) rfl)) rfl
theorem bw_391 : (Cond.methodLink "BlindMint$Field" 21 ({ cls := "BlindMint$Field", name := "multiply", desc := "(JJJ)J" } : MethodName)) ∈ bm_big := bm_inT (bm_t2 (List.mem_of_getElem? (i := 151) rfl)) rfl
theorem bw_392 : (Cond.methodLink "BlindMint" 207 ({ cls := "BlindMint$Denomination", name := "sign", desc := "(J)J" } : MethodName)) ∈ bm_big := bm_inT (bm_t2 (List.mem_of_getElem? (i := 152) rfl)) rfl
theorem bw_393 : (Cond.instanceMethod ({ cls := "BlindMint$Denomination", name := "sign", desc := "(J)J" } : MethodName)) ∈ bm_big := bm_inT (bm_t2 (List.mem_of_getElem? (i := 153) rfl)) rfl
theorem bw_394 : (Cond.selects "BlindMint$Denomination" ({ cls := "BlindMint$Denomination", name := "sign", desc := "(J)J" } : MethodName) ({ cls := "BlindMint$Denomination", name := "sign", desc := "(J)J" } : MethodName)) ∈ bm_big := bm_inT (bm_t2 (List.mem_of_getElem? (i := 154) rfl)) rfl
theorem bw_395 : (Cond.code ({ cls := "BlindMint$Denomination", name := "sign", desc := "(J)J" } : MethodName) prog_6_method_6_code 3 (Option.some FieldType.long)) ∈ bm_big := bm_inT (bm_t2 (List.mem_of_getElem? (i := 155) rfl)) rfl
theorem bw_396 : (Cond.methodLink "BlindMint$Denomination" 58 ({ cls := "BlindMint$Field", name := "root", desc := "(JJJ)J" } : MethodName)) ∈ bm_big := bm_inT (bm_t2 (List.mem_of_getElem? (i := 156) rfl)) rfl
theorem bw_397 : (Cond.static ({ cls := "BlindMint$Field", name := "root", desc := "(JJJ)J" } : MethodName)) ∈ bm_big := bm_inT (bm_t2 (List.mem_of_getElem? (i := 157) rfl)) rfl
theorem bw_398 : (Cond.code ({ cls := "BlindMint$Field", name := "root", desc := "(JJJ)J" } : MethodName) prog_7_method_5_code 6 (Option.some FieldType.long)) ∈ bm_big := bm_inT (bm_t2 (List.mem_of_getElem? (i := 158) rfl)) rfl
theorem bw_399 : (Cond.methodLink "BlindMint$Field" 24 ({ cls := "BlindMint$Field", name := "rootExponent", desc := "(JJ)J" } : MethodName)) ∈ bm_big := bm_inT (bm_t2 (List.mem_of_getElem? (i := 159) rfl)) rfl
theorem bw_400 : (Cond.static ({ cls := "BlindMint$Field", name := "rootExponent", desc := "(JJ)J" } : MethodName)) ∈ bm_big := bm_inT (bm_t2 (List.mem_of_getElem? (i := 160) rfl)) rfl
theorem bw_401 : (Cond.code ({ cls := "BlindMint$Field", name := "rootExponent", desc := "(JJ)J" } : MethodName) prog_7_method_6_code 8 (Option.some FieldType.long)) ∈ bm_big := bm_inT (bm_t2 (List.mem_of_getElem? (i := 161) rfl)) rfl
theorem bw_402 : (Cond.classLink "BlindMint" 123 "BlindMint$Coin") ∈ bm_big := bm_inT (bm_t2 (List.mem_of_getElem? (i := 162) rfl)) rfl
theorem bw_403 : (Cond.instantiable "BlindMint$Coin" 6) ∈ bm_big := bm_inT (bm_t2 (List.mem_of_getElem? (i := 163) rfl)) rfl
theorem bw_404 : (Cond.methodLink "BlindMint" 210 ({ cls := "BlindMint$Denomination", name := "unblind", desc := "(JJ)J" } : MethodName)) ∈ bm_big := bm_inT (bm_t2 (List.mem_of_getElem? (i := 164) rfl)) rfl
theorem bw_405 : (Cond.instanceMethod ({ cls := "BlindMint$Denomination", name := "unblind", desc := "(JJ)J" } : MethodName)) ∈ bm_big := bm_inT (bm_t2 (List.mem_of_getElem? (i := 165) rfl)) rfl
theorem bw_406 : (Cond.selects "BlindMint$Denomination" ({ cls := "BlindMint$Denomination", name := "unblind", desc := "(JJ)J" } : MethodName) ({ cls := "BlindMint$Denomination", name := "unblind", desc := "(JJ)J" } : MethodName)) ∈ bm_big := bm_inT (bm_t2 (List.mem_of_getElem? (i := 166) rfl)) rfl
theorem bw_407 : (Cond.code ({ cls := "BlindMint$Denomination", name := "unblind", desc := "(JJ)J" } : MethodName) prog_6_method_7_code 5 (Option.some FieldType.long)) ∈ bm_big := bm_inT (bm_t2 (List.mem_of_getElem? (i := 167) rfl)) rfl
theorem bw_408 : (Cond.methodLink "BlindMint" 217 ({ cls := "BlindMint$Coin", name := "<init>", desc := "(IJJ[LBlindMint$Candidate;)V" } : MethodName)) ∈ bm_big := bm_inT (bm_t2 (List.mem_of_getElem? (i := 168) rfl)) rfl
theorem bw_409 : (Cond.instanceMethod ({ cls := "BlindMint$Coin", name := "<init>", desc := "(IJJ[LBlindMint$Candidate;)V" } : MethodName)) ∈ bm_big := bm_inT (bm_t2 (List.mem_of_getElem? (i := 169) rfl)) rfl
theorem bw_410 : (Cond.code ({ cls := "BlindMint$Coin", name := "<init>", desc := "(IJJ[LBlindMint$Candidate;)V" } : MethodName) prog_4_method_1_code 10 (Option.none : Option Jvm.ClassFile.FieldType)) ∈ bm_big := bm_inT (bm_t2 (List.mem_of_getElem? (i := 170) rfl)) rfl
theorem bw_411 : (Cond.methodLink "BlindMint$Coin" 3 ({ cls := "java/lang/Object", name := "<init>", desc := "()V" } : MethodName)) ∈ bm_big := bm_inT (bm_t2 (List.mem_of_getElem? (i := 171) rfl)) rfl
theorem bw_412 : (Cond.fieldLink "BlindMint$Payment" 15 "BlindMint$Coin" "denomination" "I") ∈ bm_big := bm_inT (bm_t2 (List.mem_of_getElem? (i := 172) rfl)) rfl
theorem bw_413 : (Cond.fieldLink "BlindMint$Coin" 24 "BlindMint$Coin" "denomination" "I") ∈ bm_big := bm_inT (bm_t2 (List.mem_of_getElem? (i := 173) rfl)) rfl
theorem bw_414 : (Cond.fieldLink "BlindMint$Account" 24 "BlindMint$Coin" "denomination" "I") ∈ bm_big := bm_inT (bm_t2 (List.mem_of_getElem? (i := 174) rfl)) rfl
theorem bw_415 : (Cond.fieldLink "BlindMint$Coin" 28 "BlindMint$Coin" "number" "J") ∈ bm_big := bm_inT (bm_t2 (List.mem_of_getElem? (i := 175) rfl)) rfl
theorem bw_416 : (Cond.fieldLink "BlindMint" 170 "BlindMint$Coin" "number" "J") ∈ bm_big := bm_inT (bm_t2 (List.mem_of_getElem? (i := 176) rfl)) rfl
theorem bw_417 : (Cond.fieldLink "BlindMint$Payment" 21 "BlindMint$Coin" "signature" "J") ∈ bm_big := bm_inT (bm_t2 (List.mem_of_getElem? (i := 177) rfl)) rfl
theorem bw_418 : (Cond.fieldLink "BlindMint$Coin" 32 "BlindMint$Coin" "signature" "J") ∈ bm_big := bm_inT (bm_t2 (List.mem_of_getElem? (i := 178) rfl)) rfl
theorem bw_419 : (Cond.fieldLink "BlindMint" 173 "BlindMint$Coin" "signature" "J") ∈ bm_big := bm_inT (bm_t2 (List.mem_of_getElem? (i := 179) rfl)) rfl
theorem bw_420 : (Cond.fieldLink "BlindMint$Coin" 9 "BlindMint$Coin" "spent" "Z") ∈ bm_big := bm_inT (bm_t2 (List.mem_of_getElem? (i := 180) rfl)) rfl
theorem bw_421 : (Cond.fieldLink "BlindMint$Account" 27 "BlindMint$Coin" "spent" "Z") ∈ bm_big := bm_inT (bm_t2 (List.mem_of_getElem? (i := 181) rfl)) rfl
theorem bw_422 : (Cond.fieldLink "BlindMint" 122 "BlindMint$Coin" "spent" "Z") ∈ bm_big := bm_inT (bm_t2 (List.mem_of_getElem? (i := 182) rfl)) rfl
theorem bw_423 : (Cond.fieldLink "BlindMint$Coin" 17 "BlindMint$Coin" "toldForOne" "[J") ∈ bm_big := bm_inT (bm_t2 (List.mem_of_getElem? (i := 183) rfl)) rfl
theorem bw_424 : (Cond.fieldLink "BlindMint$Payment" 33 "BlindMint$Coin" "toldForOne" "[J") ∈ bm_big := bm_inT (bm_t2 (List.mem_of_getElem? (i := 184) rfl)) rfl
theorem bw_425 : (Cond.fieldLink "BlindMint$Coin" 21 "BlindMint$Coin" "toldForZero" "[J") ∈ bm_big := bm_inT (bm_t2 (List.mem_of_getElem? (i := 185) rfl)) rfl
theorem bw_426 : (Cond.fieldLink "BlindMint$Payment" 36 "BlindMint$Coin" "toldForZero" "[J") ∈ bm_big := bm_inT (bm_t2 (List.mem_of_getElem? (i := 186) rfl)) rfl
theorem bw_427 : (Cond.laysFinal "BlindMint$Coin" "BlindMint$Coin" "denomination" "I") ∈ bm_big := bm_inT (bm_t2 (List.mem_of_getElem? (i := 187) rfl)) rfl
theorem bw_429 : (Cond.laysFinal "BlindMint$Coin" "BlindMint$Coin" "number" "J") ∈ bm_big := bm_inT (bm_t2 (List.mem_of_getElem? (i := 189) rfl)) rfl
theorem bw_431 : (Cond.laysFinal "BlindMint$Coin" "BlindMint$Coin" "signature" "J") ∈ bm_big := bm_inT (bm_t2 (List.mem_of_getElem? (i := 191) rfl)) rfl
theorem bw_433 : (Cond.lays "BlindMint$Coin" "BlindMint$Coin" "spent" "Z") ∈ bm_big := bm_inT (bm_t2 (List.mem_of_getElem? (i := 193) rfl)) rfl
theorem bw_435 : (Cond.laysFinal "BlindMint$Coin" "BlindMint$Coin" "toldForOne" "[J") ∈ bm_big := bm_inT (bm_t2 (List.mem_of_getElem? (i := 195) rfl)) rfl
theorem bw_437 : (Cond.laysFinal "BlindMint$Coin" "BlindMint$Coin" "toldForZero" "[J") ∈ bm_big := bm_inT (bm_t2 (List.mem_of_getElem? (i := 197) rfl)) rfl
theorem bw_440 : (Cond.methodLink "BlindMint" 104 ({ cls := "BlindMint$Account", name := "keep", desc := "(LBlindMint$Coin;)I" } : MethodName)) ∈ bm_big := bm_inT (bm_t2 (List.mem_of_getElem? (i := 200) rfl)) rfl
theorem bw_441 : (Cond.instanceMethod ({ cls := "BlindMint$Account", name := "keep", desc := "(LBlindMint$Coin;)I" } : MethodName)) ∈ bm_big := bm_inT (bm_t2 (List.mem_of_getElem? (i := 201) rfl)) rfl
theorem bw_442 : (Cond.selects "BlindMint$Account" ({ cls := "BlindMint$Account", name := "keep", desc := "(LBlindMint$Coin;)I" } : MethodName) ({ cls := "BlindMint$Account", name := "keep", desc := "(LBlindMint$Coin;)I" } : MethodName)) ∈ bm_big := bm_inT (bm_t2 (List.mem_of_getElem? (i := 202) rfl)) rfl
theorem bw_443 : (Cond.code ({ cls := "BlindMint$Account", name := "keep", desc := "(LBlindMint$Coin;)I" } : MethodName) prog_2_method_3_code 2 (Option.some FieldType.int)) ∈ bm_big := bm_inT (bm_t2 (List.mem_of_getElem? (i := 203) rfl)) rfl
theorem bw_444 : (Cond.methodLink "BlindMintLaw" 64 ({ cls := "BlindMintLaw", name := "choose", desc := "(LBlindMint;II[J)I" } : MethodName)) ∈ bm_big := bm_inT (bm_t2 (List.mem_of_getElem? (i := 204) rfl)) rfl
theorem bw_445 : (Cond.static ({ cls := "BlindMintLaw", name := "choose", desc := "(LBlindMint;II[J)I" } : MethodName)) ∈ bm_big := bm_inT (bm_t2 (List.mem_of_getElem? (i := 205) rfl)) rfl
theorem bw_447 : (Cond.classLink "BlindMintLaw" 21 "java/util/NoSuchElementException") ∈ bm_big := bm_inT (bm_t2 (List.mem_of_getElem? (i := 207) rfl)) rfl
theorem bw_448 : (Cond.methodLink "BlindMintLaw" 17 ({ cls := "BlindMint", name := "choose", desc := "(II)I" } : MethodName)) ∈ bm_big := bm_inT (bm_t2 (List.mem_of_getElem? (i := 208) rfl)) rfl
theorem bw_449 : (Cond.instanceMethod ({ cls := "BlindMint", name := "choose", desc := "(II)I" } : MethodName)) ∈ bm_big := bm_inT (bm_t2 (List.mem_of_getElem? (i := 209) rfl)) rfl
theorem bw_450 : (Cond.selects "BlindMint" ({ cls := "BlindMint", name := "choose", desc := "(II)I" } : MethodName) ({ cls := "BlindMint", name := "choose", desc := "(II)I" } : MethodName)) ∈ bm_big := bm_inT (bm_t2 (List.mem_of_getElem? (i := 210) rfl)) rfl
theorem bw_451 : (Cond.code ({ cls := "BlindMint", name := "choose", desc := "(II)I" } : MethodName) prog_1_method_3_code 9 (Option.some FieldType.int)) ∈ bm_big := bm_inT (bm_t2 (List.mem_of_getElem? (i := 211) rfl)) rfl
theorem bw_452 : (Cond.methodLink "BlindMint" 111 ({ cls := "BlindMint$Account", name := "hasUnspent", desc := "(II)Z" } : MethodName)) ∈ bm_big := bm_inT (bm_t2 (List.mem_of_getElem? (i := 212) rfl)) rfl
theorem bw_453 : (Cond.instanceMethod ({ cls := "BlindMint$Account", name := "hasUnspent", desc := "(II)Z" } : MethodName)) ∈ bm_big := bm_inT (bm_t2 (List.mem_of_getElem? (i := 213) rfl)) rfl
theorem bw_454 : (Cond.selects "BlindMint$Account" ({ cls := "BlindMint$Account", name := "hasUnspent", desc := "(II)Z" } : MethodName) ({ cls := "BlindMint$Account", name := "hasUnspent", desc := "(II)Z" } : MethodName)) ∈ bm_big := bm_inT (bm_t2 (List.mem_of_getElem? (i := 214) rfl)) rfl
theorem bw_455 : (Cond.code ({ cls := "BlindMint$Account", name := "hasUnspent", desc := "(II)Z" } : MethodName) prog_2_method_4_code 3 (Option.some FieldType.boolean)) ∈ bm_big := bm_inT (bm_t2 (List.mem_of_getElem? (i := 215) rfl)) rfl
theorem bw_456 : (Cond.classLink "BlindMint" 115 "java/util/NoSuchElementException") ∈ bm_big := bm_inT (bm_t2 (List.mem_of_getElem? (i := 216) rfl)) rfl
theorem bw_457 : (Cond.instantiable "java/util/NoSuchElementException" 6) ∈ bm_big := bm_inT (bm_t2 (List.mem_of_getElem? (i := 217) rfl)) rfl
theorem bw_459 : (Cond.selects "java/util/NoSuchElementException" ({ cls := "java/lang/Throwable", name := "fillInStackTrace", desc := "(I)Ljava/lang/Throwable;" } : MethodName) ({ cls := "java/lang/Throwable", name := "fillInStackTrace", desc := "(I)Ljava/lang/Throwable;" } : MethodName)) ∈ bm_big := bm_inT (bm_t2 (List.mem_of_getElem? (i := 219) rfl)) rfl
theorem bw_460 : (Cond.lays "java/util/NoSuchElementException" "java/lang/Throwable" "cause" "Ljava/lang/Throwable;") ∈ bm_big := bm_inT (bm_t2 (List.mem_of_getElem? (i := 220) rfl)) rfl
theorem bw_461 : (Cond.lays "java/util/NoSuchElementException" "java/lang/Throwable" "stackTrace" "[Ljava/lang/StackTraceElement;") ∈ bm_big := bm_inT (bm_t2 (List.mem_of_getElem? (i := 221) rfl)) rfl
theorem bw_462 : (Cond.lays "java/util/NoSuchElementException" "java/lang/Throwable" "suppressedExceptions" "Ljava/util/List;") ∈ bm_big := bm_inT (bm_t2 (List.mem_of_getElem? (i := 222) rfl)) rfl
theorem bw_463 : (Cond.lays "java/util/NoSuchElementException" "java/lang/Throwable" "detailMessage" "Ljava/lang/String;") ∈ bm_big := bm_inT (bm_t2 (List.mem_of_getElem? (i := 223) rfl)) rfl
theorem bw_464 : (Cond.lays "java/util/NoSuchElementException" "java/lang/Throwable" "backtrace" "Ljava/lang/Object;") ∈ bm_big := bm_inT (bm_t2 (List.mem_of_getElem? (i := 224) rfl)) rfl
theorem bw_465 : (Cond.methodLink "BlindMint" 117 ({ cls := "java/util/NoSuchElementException", name := "<init>", desc := "()V" } : MethodName)) ∈ bm_big := bm_inT (bm_t2 (List.mem_of_getElem? (i := 225) rfl)) rfl
theorem bw_466 : (Cond.instanceMethod ({ cls := "java/util/NoSuchElementException", name := "<init>", desc := "()V" } : MethodName)) ∈ bm_big := bm_inT (bm_t2 (List.mem_of_getElem? (i := 226) rfl)) rfl
theorem bw_467 : (Cond.code ({ cls := "java/util/NoSuchElementException", name := "<init>", desc := "()V" } : MethodName) prog_22_method_1_code 1 (Option.none : Option Jvm.ClassFile.FieldType)) ∈ bm_big := bm_inT (bm_t2 (List.mem_of_getElem? (i := 227) rfl)) rfl
theorem bw_468 : (Cond.methodLink "java/util/NoSuchElementException" 1 ({ cls := "java/lang/RuntimeException", name := "<init>", desc := "()V" } : MethodName)) ∈ bm_big := bm_inT (bm_t2 (List.mem_of_getElem? (i := 228) rfl)) rfl
theorem bw_469 : (Cond.lays "java/util/NoSuchElementException" "java/lang/Throwable" "depth" "I") ∈ bm_big := bm_inT (bm_t2 (List.mem_of_getElem? (i := 229) rfl)) rfl
theorem bw_471 : (Cond.methodLink "BlindMintLaw" 68 ({ cls := "BlindMintLaw", name := "spend", desc := "(LBlindMint;IIII[J)I" } : MethodName)) ∈ bm_big := bm_inT (bm_t2 (List.mem_of_getElem? (i := 231) rfl)) rfl
theorem bw_472 : (Cond.static ({ cls := "BlindMintLaw", name := "spend", desc := "(LBlindMint;IIII[J)I" } : MethodName)) ∈ bm_big := bm_inT (bm_t2 (List.mem_of_getElem? (i := 232) rfl)) rfl
theorem bw_474 : (Cond.methodLink "BlindMintLaw" 23 ({ cls := "BlindMint", name := "spend", desc := "(IIII)I" } : MethodName)) ∈ bm_big := bm_inT (bm_t2 (List.mem_of_getElem? (i := 234) rfl)) rfl
theorem bw_475 : (Cond.instanceMethod ({ cls := "BlindMint", name := "spend", desc := "(IIII)I" } : MethodName)) ∈ bm_big := bm_inT (bm_t2 (List.mem_of_getElem? (i := 235) rfl)) rfl
theorem bw_476 : (Cond.selects "BlindMint" ({ cls := "BlindMint", name := "spend", desc := "(IIII)I" } : MethodName) ({ cls := "BlindMint", name := "spend", desc := "(IIII)I" } : MethodName)) ∈ bm_big := bm_inT (bm_t2 (List.mem_of_getElem? (i := 236) rfl)) rfl
theorem bw_477 : (Cond.code ({ cls := "BlindMint", name := "spend", desc := "(IIII)I" } : MethodName) prog_1_method_4_code 6 (Option.some FieldType.int)) ∈ bm_big := bm_inT (bm_t2 (List.mem_of_getElem? (i := 237) rfl)) rfl
theorem bw_478 : (Cond.methodLink "BlindMint" 118 ({ cls := "BlindMint", name := "findCoin", desc := "(II)LBlindMint$Coin;" } : MethodName)) ∈ bm_big := bm_inT (bm_t2 (List.mem_of_getElem? (i := 238) rfl)) rfl
theorem bw_480 : (Cond.instanceMethod ({ cls := "BlindMint", name := "findCoin", desc := "(II)LBlindMint$Coin;" } : MethodName)) ∈ bm_big := bm_inT (bm_t3 (List.mem_of_getElem? (i := 0) rfl)) rfl
theorem bw_481 : (Cond.code ({ cls := "BlindMint", name := "findCoin", desc := "(II)LBlindMint$Coin;" } : MethodName) prog_1_method_20_code 3 (Option.some (FieldType.object "BlindMint$Coin"))) ∈ bm_big := bm_inT (bm_t3 (List.mem_of_getElem? (i := 1) rfl)) rfl
theorem bw_482 : (Cond.instantiable "BlindMint$Payment" 1) ∈ bm_big := bm_inT (bm_t3 (List.mem_of_getElem? (i := 2) rfl)) rfl
theorem bw_483 : (Cond.methodLink "BlindMint" 128 ({ cls := "BlindMint$Payment", name := "<init>", desc := "(LBlindMint$Coin;II)V" } : MethodName)) ∈ bm_big := bm_inT (bm_t3 (List.mem_of_getElem? (i := 3) rfl)) rfl
theorem bw_484 : (Cond.instanceMethod ({ cls := "BlindMint$Payment", name := "<init>", desc := "(LBlindMint$Coin;II)V" } : MethodName)) ∈ bm_big := bm_inT (bm_t3 (List.mem_of_getElem? (i := 4) rfl)) rfl
theorem bw_485 : (Cond.code ({ cls := "BlindMint$Payment", name := "<init>", desc := "(LBlindMint$Coin;II)V" } : MethodName) prog_9_method_1_code 8 (Option.none : Option Jvm.ClassFile.FieldType)) ∈ bm_big := bm_inT (bm_t3 (List.mem_of_getElem? (i := 5) rfl)) rfl
theorem bw_486 : (Cond.methodLink "BlindMint$Payment" 5 ({ cls := "java/lang/Object", name := "<init>", desc := "()V" } : MethodName)) ∈ bm_big := bm_inT (bm_t3 (List.mem_of_getElem? (i := 6) rfl)) rfl
theorem bw_487 : (Cond.methodLink "BlindMint$Payment" 43 ({ cls := "java/lang/System", name := "arraycopy", desc := "(Ljava/lang/Object;ILjava/lang/Object;II)V" } : MethodName)) ∈ bm_big := bm_inT (bm_t3 (List.mem_of_getElem? (i := 7) rfl)) rfl
theorem bw_488 : (Cond.static ({ cls := "java/lang/System", name := "arraycopy", desc := "(Ljava/lang/Object;ILjava/lang/Object;II)V" } : MethodName)) ∈ bm_big := bm_inT (bm_t3 (List.mem_of_getElem? (i := 8) rfl)) rfl
theorem bw_489 : (Cond.native ({ cls := "java/lang/System", name := "arraycopy", desc := "(Ljava/lang/Object;ILjava/lang/Object;II)V" } : MethodName)) ∈ bm_big := bm_inT (bm_t3 (List.mem_of_getElem? (i := 9) rfl)) rfl
theorem bw_490 : (Cond.fieldLink "BlindMint$Payment" 11 "BlindMint$Payment" "numbers" "[J") ∈ bm_big := bm_inT (bm_t3 (List.mem_of_getElem? (i := 10) rfl)) rfl
theorem bw_491 : (Cond.fieldLink "BlindMint" 138 "BlindMint$Payment" "numbers" "[J") ∈ bm_big := bm_inT (bm_t3 (List.mem_of_getElem? (i := 11) rfl)) rfl
theorem bw_492 : (Cond.laysFinal "BlindMint$Payment" "BlindMint$Payment" "numbers" "[J") ∈ bm_big := bm_inT (bm_t3 (List.mem_of_getElem? (i := 12) rfl)) rfl
theorem bw_495 : (Cond.methodLink "BlindMintLaw" 72 ({ cls := "BlindMintLaw", name := "tamper", desc := "(LBlindMint;IIJ[J)I" } : MethodName)) ∈ bm_big := bm_inT (bm_t3 (List.mem_of_getElem? (i := 15) rfl)) rfl
theorem bw_496 : (Cond.static ({ cls := "BlindMintLaw", name := "tamper", desc := "(LBlindMint;IIJ[J)I" } : MethodName)) ∈ bm_big := bm_inT (bm_t3 (List.mem_of_getElem? (i := 16) rfl)) rfl
theorem bw_498 : (Cond.methodLink "BlindMintLaw" 27 ({ cls := "BlindMint", name := "tamper", desc := "(IIJ)J" } : MethodName)) ∈ bm_big := bm_inT (bm_t3 (List.mem_of_getElem? (i := 18) rfl)) rfl
theorem bw_499 : (Cond.instanceMethod ({ cls := "BlindMint", name := "tamper", desc := "(IIJ)J" } : MethodName)) ∈ bm_big := bm_inT (bm_t3 (List.mem_of_getElem? (i := 19) rfl)) rfl
theorem bw_500 : (Cond.selects "BlindMint" ({ cls := "BlindMint", name := "tamper", desc := "(IIJ)J" } : MethodName) ({ cls := "BlindMint", name := "tamper", desc := "(IIJ)J" } : MethodName)) ∈ bm_big := bm_inT (bm_t3 (List.mem_of_getElem? (i := 20) rfl)) rfl
theorem bw_501 : (Cond.code ({ cls := "BlindMint", name := "tamper", desc := "(IIJ)J" } : MethodName) prog_1_method_5_code 6 (Option.some FieldType.long)) ∈ bm_big := bm_inT (bm_t3 (List.mem_of_getElem? (i := 21) rfl)) rfl
theorem bw_502 : (Cond.methodLink "BlindMint" 135 ({ cls := "BlindMint$Payment", name := "hasNumber", desc := "(I)Z" } : MethodName)) ∈ bm_big := bm_inT (bm_t3 (List.mem_of_getElem? (i := 22) rfl)) rfl
theorem bw_503 : (Cond.static ({ cls := "BlindMint$Payment", name := "hasNumber", desc := "(I)Z" } : MethodName)) ∈ bm_big := bm_inT (bm_t3 (List.mem_of_getElem? (i := 23) rfl)) rfl
theorem bw_504 : (Cond.code ({ cls := "BlindMint$Payment", name := "hasNumber", desc := "(I)Z" } : MethodName) prog_9_method_2_code 1 (Option.some FieldType.boolean)) ∈ bm_big := bm_inT (bm_t3 (List.mem_of_getElem? (i := 24) rfl)) rfl
theorem bw_505 : (Cond.methodLink "BlindMintLaw" 76 ({ cls := "BlindMintLaw", name := "number", desc := "(LBlindMint;II[J)I" } : MethodName)) ∈ bm_big := bm_inT (bm_t3 (List.mem_of_getElem? (i := 25) rfl)) rfl
theorem bw_506 : (Cond.static ({ cls := "BlindMintLaw", name := "number", desc := "(LBlindMint;II[J)I" } : MethodName)) ∈ bm_big := bm_inT (bm_t3 (List.mem_of_getElem? (i := 26) rfl)) rfl
theorem bw_508 : (Cond.methodLink "BlindMintLaw" 31 ({ cls := "BlindMint", name := "number", desc := "(II)J" } : MethodName)) ∈ bm_big := bm_inT (bm_t3 (List.mem_of_getElem? (i := 28) rfl)) rfl
theorem bw_509 : (Cond.instanceMethod ({ cls := "BlindMint", name := "number", desc := "(II)J" } : MethodName)) ∈ bm_big := bm_inT (bm_t3 (List.mem_of_getElem? (i := 29) rfl)) rfl
theorem bw_510 : (Cond.selects "BlindMint" ({ cls := "BlindMint", name := "number", desc := "(II)J" } : MethodName) ({ cls := "BlindMint", name := "number", desc := "(II)J" } : MethodName)) ∈ bm_big := bm_inT (bm_t3 (List.mem_of_getElem? (i := 30) rfl)) rfl
theorem bw_511 : (Cond.code ({ cls := "BlindMint", name := "number", desc := "(II)J" } : MethodName) prog_1_method_6_code 4 (Option.some FieldType.long)) ∈ bm_big := bm_inT (bm_t3 (List.mem_of_getElem? (i := 31) rfl)) rfl
theorem bw_512 : (Cond.methodLink "BlindMintLaw" 84 ({ cls := "BlindMintLaw", name := "deposit", desc := "(LBlindMint;II[J)I" } : MethodName)) ∈ bm_big := bm_inT (bm_t3 (List.mem_of_getElem? (i := 32) rfl)) rfl
theorem bw_513 : (Cond.static ({ cls := "BlindMintLaw", name := "deposit", desc := "(LBlindMint;II[J)I" } : MethodName)) ∈ bm_big := bm_inT (bm_t3 (List.mem_of_getElem? (i := 33) rfl)) rfl
theorem bw_515 : (Cond.methodLink "BlindMintLaw" 35 ({ cls := "BlindMint", name := "deposit", desc := "(II)I" } : MethodName)) ∈ bm_big := bm_inT (bm_t3 (List.mem_of_getElem? (i := 35) rfl)) rfl
theorem bw_516 : (Cond.instanceMethod ({ cls := "BlindMint", name := "deposit", desc := "(II)I" } : MethodName)) ∈ bm_big := bm_inT (bm_t3 (List.mem_of_getElem? (i := 36) rfl)) rfl
theorem bw_517 : (Cond.selects "BlindMint" ({ cls := "BlindMint", name := "deposit", desc := "(II)I" } : MethodName) ({ cls := "BlindMint", name := "deposit", desc := "(II)I" } : MethodName)) ∈ bm_big := bm_inT (bm_t3 (List.mem_of_getElem? (i := 37) rfl)) rfl
theorem bw_518 : (Cond.code ({ cls := "BlindMint", name := "deposit", desc := "(II)I" } : MethodName) prog_1_method_8_code 6 (Option.some FieldType.int)) ∈ bm_big := bm_inT (bm_t3 (List.mem_of_getElem? (i := 38) rfl)) rfl
theorem bw_519 : (Cond.methodLink "BlindMint" 149 ({ cls := "BlindMint", name := "findCredit", desc := "(J)LBlindMint$Credit;" } : MethodName)) ∈ bm_big := bm_inT (bm_t3 (List.mem_of_getElem? (i := 39) rfl)) rfl
theorem bw_521 : (Cond.instanceMethod ({ cls := "BlindMint", name := "findCredit", desc := "(J)LBlindMint$Credit;" } : MethodName)) ∈ bm_big := bm_inT (bm_t3 (List.mem_of_getElem? (i := 41) rfl)) rfl
theorem bw_522 : (Cond.code ({ cls := "BlindMint", name := "findCredit", desc := "(J)LBlindMint$Credit;" } : MethodName) prog_1_method_24_code 4 (Option.some (FieldType.object "BlindMint$Credit"))) ∈ bm_big := bm_inT (bm_t3 (List.mem_of_getElem? (i := 42) rfl)) rfl
theorem bw_523 : (Cond.methodLink "BlindMint" 228 ({ cls := "BlindMint$Credit", name := "isOf", desc := "(J[J)Z" } : MethodName)) ∈ bm_big := bm_inT (bm_t3 (List.mem_of_getElem? (i := 43) rfl)) rfl
theorem bw_524 : (Cond.instanceMethod ({ cls := "BlindMint$Credit", name := "isOf", desc := "(J[J)Z" } : MethodName)) ∈ bm_big := bm_inT (bm_t3 (List.mem_of_getElem? (i := 44) rfl)) rfl
theorem bw_525 : (Cond.selects "BlindMint$Credit" ({ cls := "BlindMint$Credit", name := "isOf", desc := "(J[J)Z" } : MethodName) ({ cls := "BlindMint$Credit", name := "isOf", desc := "(J[J)Z" } : MethodName)) ∈ bm_big := bm_inT (bm_t3 (List.mem_of_getElem? (i := 45) rfl)) rfl
theorem bw_526 : (Cond.code ({ cls := "BlindMint$Credit", name := "isOf", desc := "(J[J)Z" } : MethodName) prog_5_method_2_code 6 (Option.some FieldType.boolean)) ∈ bm_big := bm_inT (bm_t3 (List.mem_of_getElem? (i := 46) rfl)) rfl
theorem bw_527 : (Cond.methodLink "BlindMint" 153 ({ cls := "BlindMint$Credit", name := "revealedIdentity", desc := "(LBlindMint$Payment;)J" } : MethodName)) ∈ bm_big := bm_inT (bm_t3 (List.mem_of_getElem? (i := 47) rfl)) rfl
theorem bw_528 : (Cond.instanceMethod ({ cls := "BlindMint$Credit", name := "revealedIdentity", desc := "(LBlindMint$Payment;)J" } : MethodName)) ∈ bm_big := bm_inT (bm_t3 (List.mem_of_getElem? (i := 48) rfl)) rfl
theorem bw_529 : (Cond.selects "BlindMint$Credit" ({ cls := "BlindMint$Credit", name := "revealedIdentity", desc := "(LBlindMint$Payment;)J" } : MethodName) ({ cls := "BlindMint$Credit", name := "revealedIdentity", desc := "(LBlindMint$Payment;)J" } : MethodName)) ∈ bm_big := bm_inT (bm_t3 (List.mem_of_getElem? (i := 49) rfl)) rfl
theorem bw_530 : (Cond.code ({ cls := "BlindMint$Credit", name := "revealedIdentity", desc := "(LBlindMint$Payment;)J" } : MethodName) prog_5_method_3_code 5 (Option.some FieldType.long)) ∈ bm_big := bm_inT (bm_t3 (List.mem_of_getElem? (i := 50) rfl)) rfl
theorem bw_531 : (Cond.methodLink "BlindMint$Credit" 27 ({ cls := "BlindMint$Payment", name := "challenge", desc := "()J" } : MethodName)) ∈ bm_big := bm_inT (bm_t3 (List.mem_of_getElem? (i := 51) rfl)) rfl
theorem bw_533 : (Cond.methodLink "BlindMint$Credit" 32 ({ cls := "BlindMint$Payment", name := "half", desc := "(I)J" } : MethodName)) ∈ bm_big := bm_inT (bm_t3 (List.mem_of_getElem? (i := 53) rfl)) rfl
theorem bw_534 : (Cond.instanceMethod ({ cls := "BlindMint$Payment", name := "half", desc := "(I)J" } : MethodName)) ∈ bm_big := bm_inT (bm_t3 (List.mem_of_getElem? (i := 54) rfl)) rfl
theorem bw_535 : (Cond.selects "BlindMint$Payment" ({ cls := "BlindMint$Payment", name := "half", desc := "(I)J" } : MethodName) ({ cls := "BlindMint$Payment", name := "half", desc := "(I)J" } : MethodName)) ∈ bm_big := bm_inT (bm_t3 (List.mem_of_getElem? (i := 55) rfl)) rfl
theorem bw_536 : (Cond.code ({ cls := "BlindMint$Payment", name := "half", desc := "(I)J" } : MethodName) prog_9_method_6_code 2 (Option.some FieldType.long)) ∈ bm_big := bm_inT (bm_t3 (List.mem_of_getElem? (i := 56) rfl)) rfl
theorem bw_537 : (Cond.constantLong "BlindMint$Credit" 44 (-1)) ∈ bm_big := bm_inT (bm_t3 (List.mem_of_getElem? (i := 57) rfl)) rfl
theorem bw_538 : (Cond.methodLink "BlindMint" 159 ({ cls := "BlindMint", name := "accountOf", desc := "(J)I" } : MethodName)) ∈ bm_big := bm_inT (bm_t3 (List.mem_of_getElem? (i := 58) rfl)) rfl
theorem bw_539 : (Cond.static ({ cls := "BlindMint", name := "accountOf", desc := "(J)I" } : MethodName)) ∈ bm_big := bm_inT (bm_t3 (List.mem_of_getElem? (i := 59) rfl)) rfl
theorem bw_540 : (Cond.code ({ cls := "BlindMint", name := "accountOf", desc := "(J)I" } : MethodName) prog_1_method_19_code 3 (Option.some FieldType.int)) ∈ bm_big := bm_inT (bm_t3 (List.mem_of_getElem? (i := 60) rfl)) rfl
theorem bw_541 : (Cond.constantLong "BlindMint" 176 (1000)) ∈ bm_big := bm_inT (bm_t3 (List.mem_of_getElem? (i := 61) rfl)) rfl
theorem bw_542 : (Cond.constantLong "BlindMint" 178 (1004)) ∈ bm_big := bm_inT (bm_t3 (List.mem_of_getElem? (i := 62) rfl)) rfl
theorem bw_543 : (Cond.classLink "BlindMint" 154 "BlindMint$Credit") ∈ bm_big := bm_inT (bm_t3 (List.mem_of_getElem? (i := 63) rfl)) rfl
theorem bw_544 : (Cond.instantiable "BlindMint$Credit" 5) ∈ bm_big := bm_inT (bm_t3 (List.mem_of_getElem? (i := 64) rfl)) rfl
theorem bw_545 : (Cond.methodLink "BlindMint" 162 ({ cls := "[J", name := "clone", desc := "()Ljava/lang/Object;" } : MethodName)) ∈ bm_big := bm_inT (bm_t3 (List.mem_of_getElem? (i := 65) rfl)) rfl
theorem bw_546 : (Cond.sameMethod "[J" "java/lang/Object" "clone" "()Ljava/lang/Object;") ∈ bm_big := bm_inT (bm_t3 (List.mem_of_getElem? (i := 66) rfl)) rfl
theorem bw_547 : (Cond.native ({ cls := "java/lang/Object", name := "clone", desc := "()Ljava/lang/Object;" } : MethodName)) ∈ bm_big := bm_inT (bm_t3 (List.mem_of_getElem? (i := 67) rfl)) rfl
theorem bw_548 : (Cond.instanceMethod ({ cls := "java/lang/Object", name := "clone", desc := "()Ljava/lang/Object;" } : MethodName)) ∈ bm_big := bm_inT (bm_t3 (List.mem_of_getElem? (i := 68) rfl)) rfl
theorem bw_549 : (Cond.selects "[J" ({ cls := "[J", name := "clone", desc := "()Ljava/lang/Object;" } : MethodName) ({ cls := "java/lang/Object", name := "clone", desc := "()Ljava/lang/Object;" } : MethodName)) ∈ bm_big := bm_inT (bm_t3 (List.mem_of_getElem? (i := 69) rfl)) rfl
theorem bw_551 : (Cond.classLink "BlindMint" 163 "[J") ∈ bm_big := bm_inT (bm_t3 (List.mem_of_getElem? (i := 71) rfl)) rfl
theorem bw_552 : (Cond.methodLink "BlindMint" 167 ({ cls := "BlindMint$Credit", name := "<init>", desc := "(LBlindMint$Payment;[JLBlindMint$Credit;)V" } : MethodName)) ∈ bm_big := bm_inT (bm_t3 (List.mem_of_getElem? (i := 72) rfl)) rfl
theorem bw_553 : (Cond.instanceMethod ({ cls := "BlindMint$Credit", name := "<init>", desc := "(LBlindMint$Payment;[JLBlindMint$Credit;)V" } : MethodName)) ∈ bm_big := bm_inT (bm_t3 (List.mem_of_getElem? (i := 73) rfl)) rfl
theorem bw_554 : (Cond.code ({ cls := "BlindMint$Credit", name := "<init>", desc := "(LBlindMint$Payment;[JLBlindMint$Credit;)V" } : MethodName) prog_5_method_1_code 5 (Option.none : Option Jvm.ClassFile.FieldType)) ∈ bm_big := bm_inT (bm_t3 (List.mem_of_getElem? (i := 74) rfl)) rfl
theorem bw_555 : (Cond.methodLink "BlindMint$Credit" 3 ({ cls := "java/lang/Object", name := "<init>", desc := "()V" } : MethodName)) ∈ bm_big := bm_inT (bm_t3 (List.mem_of_getElem? (i := 75) rfl)) rfl
theorem bw_556 : (Cond.methodLink "BlindMint$Credit" 15 ({ cls := "BlindMint$Payment", name := "denomination", desc := "()J" } : MethodName)) ∈ bm_big := bm_inT (bm_t3 (List.mem_of_getElem? (i := 76) rfl)) rfl
theorem bw_557 : (Cond.fieldLink "BlindMint$Credit" 21 "BlindMint$Credit" "denomination" "J") ∈ bm_big := bm_inT (bm_t3 (List.mem_of_getElem? (i := 77) rfl)) rfl
theorem bw_558 : (Cond.fieldLink "BlindMint$Credit" 24 "BlindMint$Credit" "pairHashes" "[J") ∈ bm_big := bm_inT (bm_t3 (List.mem_of_getElem? (i := 78) rfl)) rfl
theorem bw_559 : (Cond.fieldLink "BlindMint$Credit" 30 "BlindMint$Credit" "challenge" "J") ∈ bm_big := bm_inT (bm_t3 (List.mem_of_getElem? (i := 79) rfl)) rfl
theorem bw_560 : (Cond.fieldLink "BlindMint$Credit" 9 "BlindMint$Credit" "halves" "[J") ∈ bm_big := bm_inT (bm_t3 (List.mem_of_getElem? (i := 80) rfl)) rfl
theorem bw_561 : (Cond.fieldLink "BlindMint$Credit" 36 "BlindMint$Credit" "before" "LBlindMint$Credit;") ∈ bm_big := bm_inT (bm_t3 (List.mem_of_getElem? (i := 81) rfl)) rfl
theorem bw_562 : (Cond.fieldLink "BlindMint" 232 "BlindMint$Credit" "before" "LBlindMint$Credit;") ∈ bm_big := bm_inT (bm_t3 (List.mem_of_getElem? (i := 82) rfl)) rfl
theorem bw_563 : (Cond.laysFinal "BlindMint$Credit" "BlindMint$Credit" "denomination" "J") ∈ bm_big := bm_inT (bm_t3 (List.mem_of_getElem? (i := 83) rfl)) rfl
theorem bw_565 : (Cond.laysFinal "BlindMint$Credit" "BlindMint$Credit" "pairHashes" "[J") ∈ bm_big := bm_inT (bm_t3 (List.mem_of_getElem? (i := 85) rfl)) rfl
theorem bw_567 : (Cond.laysFinal "BlindMint$Credit" "BlindMint$Credit" "challenge" "J") ∈ bm_big := bm_inT (bm_t3 (List.mem_of_getElem? (i := 87) rfl)) rfl
theorem bw_569 : (Cond.laysFinal "BlindMint$Credit" "BlindMint$Credit" "halves" "[J") ∈ bm_big := bm_inT (bm_t3 (List.mem_of_getElem? (i := 89) rfl)) rfl
theorem bw_571 : (Cond.laysFinal "BlindMint$Credit" "BlindMint$Credit" "before" "LBlindMint$Credit;") ∈ bm_big := bm_inT (bm_t3 (List.mem_of_getElem? (i := 91) rfl)) rfl
theorem bw_574 : (Cond.methodLink "BlindMintLaw" 91 ({ cls := "BlindMintLaw", name := "balance", desc := "(LBlindMint;I[J)I" } : MethodName)) ∈ bm_big := bm_inT (bm_t3 (List.mem_of_getElem? (i := 94) rfl)) rfl
theorem bw_575 : (Cond.static ({ cls := "BlindMintLaw", name := "balance", desc := "(LBlindMint;I[J)I" } : MethodName)) ∈ bm_big := bm_inT (bm_t3 (List.mem_of_getElem? (i := 95) rfl)) rfl
theorem bw_577 : (Cond.methodLink "BlindMintLaw" 38 ({ cls := "BlindMint", name := "balance", desc := "(I)I" } : MethodName)) ∈ bm_big := bm_inT (bm_t3 (List.mem_of_getElem? (i := 97) rfl)) rfl
theorem bw_578 : (Cond.instanceMethod ({ cls := "BlindMint", name := "balance", desc := "(I)I" } : MethodName)) ∈ bm_big := bm_inT (bm_t3 (List.mem_of_getElem? (i := 98) rfl)) rfl
theorem bw_579 : (Cond.selects "BlindMint" ({ cls := "BlindMint", name := "balance", desc := "(I)I" } : MethodName) ({ cls := "BlindMint", name := "balance", desc := "(I)I" } : MethodName)) ∈ bm_big := bm_inT (bm_t3 (List.mem_of_getElem? (i := 99) rfl)) rfl
theorem bw_580 : (Cond.code ({ cls := "BlindMint", name := "balance", desc := "(I)I" } : MethodName) prog_1_method_10_code 2 (Option.some FieldType.int)) ∈ bm_big := bm_inT (bm_t3 (List.mem_of_getElem? (i := 100) rfl)) rfl
theorem bw_581 : (Cond.methodLink "BlindMintLaw" 99 ({ cls := "BlindMintLaw", name := "coin", desc := "(LBlindMint;II[J)I" } : MethodName)) ∈ bm_big := bm_inT (bm_t3 (List.mem_of_getElem? (i := 101) rfl)) rfl
theorem bw_582 : (Cond.static ({ cls := "BlindMintLaw", name := "coin", desc := "(LBlindMint;II[J)I" } : MethodName)) ∈ bm_big := bm_inT (bm_t3 (List.mem_of_getElem? (i := 102) rfl)) rfl
theorem bw_584 : (Cond.methodLink "BlindMintLaw" 42 ({ cls := "BlindMint", name := "coin", desc := "(II)J" } : MethodName)) ∈ bm_big := bm_inT (bm_t3 (List.mem_of_getElem? (i := 104) rfl)) rfl
theorem bw_585 : (Cond.instanceMethod ({ cls := "BlindMint", name := "coin", desc := "(II)J" } : MethodName)) ∈ bm_big := bm_inT (bm_t3 (List.mem_of_getElem? (i := 105) rfl)) rfl
theorem bw_586 : (Cond.selects "BlindMint" ({ cls := "BlindMint", name := "coin", desc := "(II)J" } : MethodName) ({ cls := "BlindMint", name := "coin", desc := "(II)J" } : MethodName)) ∈ bm_big := bm_inT (bm_t3 (List.mem_of_getElem? (i := 106) rfl)) rfl
theorem bw_587 : (Cond.code ({ cls := "BlindMint", name := "coin", desc := "(II)J" } : MethodName) prog_1_method_12_code 4 (Option.some FieldType.long)) ∈ bm_big := bm_inT (bm_t3 (List.mem_of_getElem? (i := 107) rfl)) rfl
theorem bw_588 : (Cond.methodLink "BlindMintLaw" 102 ({ cls := "BlindMintLaw", name := "signature", desc := "(LBlindMint;II[J)I" } : MethodName)) ∈ bm_big := bm_inT (bm_t3 (List.mem_of_getElem? (i := 108) rfl)) rfl
theorem bw_589 : (Cond.static ({ cls := "BlindMintLaw", name := "signature", desc := "(LBlindMint;II[J)I" } : MethodName)) ∈ bm_big := bm_inT (bm_t3 (List.mem_of_getElem? (i := 109) rfl)) rfl
theorem bw_591 : (Cond.methodLink "BlindMintLaw" 45 ({ cls := "BlindMint", name := "signature", desc := "(II)J" } : MethodName)) ∈ bm_big := bm_inT (bm_t3 (List.mem_of_getElem? (i := 111) rfl)) rfl
theorem bw_592 : (Cond.instanceMethod ({ cls := "BlindMint", name := "signature", desc := "(II)J" } : MethodName)) ∈ bm_big := bm_inT (bm_t3 (List.mem_of_getElem? (i := 112) rfl)) rfl
theorem bw_593 : (Cond.selects "BlindMint" ({ cls := "BlindMint", name := "signature", desc := "(II)J" } : MethodName) ({ cls := "BlindMint", name := "signature", desc := "(II)J" } : MethodName)) ∈ bm_big := bm_inT (bm_t3 (List.mem_of_getElem? (i := 113) rfl)) rfl
theorem bw_594 : (Cond.code ({ cls := "BlindMint", name := "signature", desc := "(II)J" } : MethodName) prog_1_method_13_code 4 (Option.some FieldType.long)) ∈ bm_big := bm_inT (bm_t3 (List.mem_of_getElem? (i := 114) rfl)) rfl
theorem bw_595 : (Cond.classLink "BlindMintLaw" 49 "BlindMintModel") ∈ bm_big := bm_inT (bm_t3 (List.mem_of_getElem? (i := 115) rfl)) rfl
theorem bw_596 : (Cond.instantiable "BlindMintModel" 22) ∈ bm_big := bm_inT (bm_t3 (List.mem_of_getElem? (i := 116) rfl)) rfl
theorem bw_597 : (Cond.methodLink "BlindMintLaw" 51 ({ cls := "BlindMintModel", name := "<init>", desc := "()V" } : MethodName)) ∈ bm_big := bm_inT (bm_t3 (List.mem_of_getElem? (i := 117) rfl)) rfl
theorem bw_598 : (Cond.instanceMethod ({ cls := "BlindMintModel", name := "<init>", desc := "()V" } : MethodName)) ∈ bm_big := bm_inT (bm_t3 (List.mem_of_getElem? (i := 118) rfl)) rfl
theorem bw_599 : (Cond.code ({ cls := "BlindMintModel", name := "<init>", desc := "()V" } : MethodName) prog_12_method_1_code 2 (Option.none : Option Jvm.ClassFile.FieldType)) ∈ bm_big := bm_inT (bm_t3 (List.mem_of_getElem? (i := 119) rfl)) rfl
theorem bw_600 : (Cond.methodLink "BlindMintModel" 1 ({ cls := "java/lang/Object", name := "<init>", desc := "()V" } : MethodName)) ∈ bm_big := bm_inT (bm_t3 (List.mem_of_getElem? (i := 120) rfl)) rfl
theorem bw_601 : (Cond.constantLong "BlindMintModel" 20 (-1)) ∈ bm_big := bm_inT (bm_t3 (List.mem_of_getElem? (i := 121) rfl)) rfl
theorem bw_602 : (Cond.fieldLink "BlindMintModel" 73 "BlindMintModel" "thrown" "I") ∈ bm_big := bm_inT (bm_t3 (List.mem_of_getElem? (i := 122) rfl)) rfl
theorem bw_603 : (Cond.fieldLink "BlindMintModel" 7 "BlindMintModel" "money" "[I") ∈ bm_big := bm_inT (bm_t3 (List.mem_of_getElem? (i := 123) rfl)) rfl
theorem bw_604 : (Cond.fieldLink "BlindMintModel" 13 "BlindMintModel" "counts" "[I") ∈ bm_big := bm_inT (bm_t3 (List.mem_of_getElem? (i := 124) rfl)) rfl
theorem bw_605 : (Cond.fieldLink "BlindMintModel" 16 "BlindMintModel" "traced" "I") ∈ bm_big := bm_inT (bm_t3 (List.mem_of_getElem? (i := 125) rfl)) rfl
theorem bw_606 : (Cond.fieldLink "BlindMintModel" 22 "BlindMintModel" "blinded" "J") ∈ bm_big := bm_inT (bm_t3 (List.mem_of_getElem? (i := 126) rfl)) rfl
theorem bw_607 : (Cond.fieldLink "BlindMintModel" 26 "BlindMintModel" "coins" "[I") ∈ bm_big := bm_inT (bm_t3 (List.mem_of_getElem? (i := 127) rfl)) rfl
theorem bw_608 : (Cond.fieldLink "BlindMintModel" 29 "BlindMintModel" "sort" "[I") ∈ bm_big := bm_inT (bm_t3 (List.mem_of_getElem? (i := 128) rfl)) rfl
theorem bw_609 : (Cond.fieldLink "BlindMintModel" 32 "BlindMintModel" "numbers" "[J") ∈ bm_big := bm_inT (bm_t3 (List.mem_of_getElem? (i := 129) rfl)) rfl
theorem bw_610 : (Cond.fieldLink "BlindMintModel" 36 "BlindMintModel" "signs" "[J") ∈ bm_big := bm_inT (bm_t3 (List.mem_of_getElem? (i := 130) rfl)) rfl
theorem bw_611 : (Cond.fieldLink "BlindMintModel" 39 "BlindMintModel" "spent" "[Z") ∈ bm_big := bm_inT (bm_t3 (List.mem_of_getElem? (i := 131) rfl)) rfl
theorem bw_612 : (Cond.fieldLink "BlindMintModel" 43 "BlindMintModel" "parts" "[J") ∈ bm_big := bm_inT (bm_t3 (List.mem_of_getElem? (i := 132) rfl)) rfl
theorem bw_613 : (Cond.fieldLink "BlindMintModel" 171 "BlindMintModel" "payments" "I") ∈ bm_big := bm_inT (bm_t3 (List.mem_of_getElem? (i := 133) rfl)) rfl
theorem bw_614 : (Cond.fieldLink "BlindMintModel" 46 "BlindMintModel" "rows" "[J") ∈ bm_big := bm_inT (bm_t3 (List.mem_of_getElem? (i := 134) rfl)) rfl
theorem bw_615 : (Cond.fieldLink "BlindMintModel" 192 "BlindMintModel" "deposits" "I") ∈ bm_big := bm_inT (bm_t3 (List.mem_of_getElem? (i := 135) rfl)) rfl
theorem bw_616 : (Cond.fieldLink "BlindMintModel" 49 "BlindMintModel" "taken" "[J") ∈ bm_big := bm_inT (bm_t3 (List.mem_of_getElem? (i := 136) rfl)) rfl
theorem bw_617 : (Cond.fieldLink "BlindMintModel" 52 "BlindMintModel" "a" "[J") ∈ bm_big := bm_inT (bm_t3 (List.mem_of_getElem? (i := 137) rfl)) rfl
theorem bw_618 : (Cond.fieldLink "BlindMintModel" 55 "BlindMintModel" "b" "[J") ∈ bm_big := bm_inT (bm_t3 (List.mem_of_getElem? (i := 138) rfl)) rfl
theorem bw_619 : (Cond.fieldLink "BlindMintModel" 58 "BlindMintModel" "c" "[J") ∈ bm_big := bm_inT (bm_t3 (List.mem_of_getElem? (i := 139) rfl)) rfl
theorem bw_620 : (Cond.fieldLink "BlindMintModel" 61 "BlindMintModel" "e" "[J") ∈ bm_big := bm_inT (bm_t3 (List.mem_of_getElem? (i := 140) rfl)) rfl
theorem bw_621 : (Cond.fieldLink "BlindMintModel" 64 "BlindMintModel" "pair" "[J") ∈ bm_big := bm_inT (bm_t3 (List.mem_of_getElem? (i := 141) rfl)) rfl
theorem bw_622 : (Cond.fieldLink "BlindMintModel" 67 "BlindMintModel" "left" "[Z") ∈ bm_big := bm_inT (bm_t3 (List.mem_of_getElem? (i := 142) rfl)) rfl
theorem bw_623 : (Cond.fieldLink "BlindMintModel" 70 "BlindMintModel" "hashes" "[J") ∈ bm_big := bm_inT (bm_t3 (List.mem_of_getElem? (i := 143) rfl)) rfl
theorem bw_624 : (Cond.lays "BlindMintModel" "BlindMintModel" "thrown" "I") ∈ bm_big := bm_inT (bm_t3 (List.mem_of_getElem? (i := 144) rfl)) rfl
theorem bw_626 : (Cond.laysFinal "BlindMintModel" "BlindMintModel" "money" "[I") ∈ bm_big := bm_inT (bm_t3 (List.mem_of_getElem? (i := 146) rfl)) rfl
theorem bw_628 : (Cond.laysFinal "BlindMintModel" "BlindMintModel" "counts" "[I") ∈ bm_big := bm_inT (bm_t3 (List.mem_of_getElem? (i := 148) rfl)) rfl
theorem bw_630 : (Cond.lays "BlindMintModel" "BlindMintModel" "traced" "I") ∈ bm_big := bm_inT (bm_t3 (List.mem_of_getElem? (i := 150) rfl)) rfl
theorem bw_632 : (Cond.lays "BlindMintModel" "BlindMintModel" "blinded" "J") ∈ bm_big := bm_inT (bm_t3 (List.mem_of_getElem? (i := 152) rfl)) rfl
theorem bw_634 : (Cond.laysFinal "BlindMintModel" "BlindMintModel" "coins" "[I") ∈ bm_big := bm_inT (bm_t3 (List.mem_of_getElem? (i := 154) rfl)) rfl
theorem bw_636 : (Cond.laysFinal "BlindMintModel" "BlindMintModel" "sort" "[I") ∈ bm_big := bm_inT (bm_t3 (List.mem_of_getElem? (i := 156) rfl)) rfl
theorem bw_638 : (Cond.laysFinal "BlindMintModel" "BlindMintModel" "numbers" "[J") ∈ bm_big := bm_inT (bm_t3 (List.mem_of_getElem? (i := 158) rfl)) rfl
theorem bw_640 : (Cond.laysFinal "BlindMintModel" "BlindMintModel" "signs" "[J") ∈ bm_big := bm_inT (bm_t3 (List.mem_of_getElem? (i := 160) rfl)) rfl
theorem bw_642 : (Cond.laysFinal "BlindMintModel" "BlindMintModel" "spent" "[Z") ∈ bm_big := bm_inT (bm_t3 (List.mem_of_getElem? (i := 162) rfl)) rfl
theorem bw_644 : (Cond.laysFinal "BlindMintModel" "BlindMintModel" "parts" "[J") ∈ bm_big := bm_inT (bm_t3 (List.mem_of_getElem? (i := 164) rfl)) rfl
theorem bw_646 : (Cond.lays "BlindMintModel" "BlindMintModel" "payments" "I") ∈ bm_big := bm_inT (bm_t3 (List.mem_of_getElem? (i := 166) rfl)) rfl
theorem bw_648 : (Cond.laysFinal "BlindMintModel" "BlindMintModel" "rows" "[J") ∈ bm_big := bm_inT (bm_t3 (List.mem_of_getElem? (i := 168) rfl)) rfl
theorem bw_650 : (Cond.lays "BlindMintModel" "BlindMintModel" "deposits" "I") ∈ bm_big := bm_inT (bm_t3 (List.mem_of_getElem? (i := 170) rfl)) rfl
theorem bw_652 : (Cond.laysFinal "BlindMintModel" "BlindMintModel" "taken" "[J") ∈ bm_big := bm_inT (bm_t3 (List.mem_of_getElem? (i := 172) rfl)) rfl
theorem bw_654 : (Cond.laysFinal "BlindMintModel" "BlindMintModel" "a" "[J") ∈ bm_big := bm_inT (bm_t3 (List.mem_of_getElem? (i := 174) rfl)) rfl
theorem bw_656 : (Cond.laysFinal "BlindMintModel" "BlindMintModel" "b" "[J") ∈ bm_big := bm_inT (bm_t3 (List.mem_of_getElem? (i := 176) rfl)) rfl
theorem bw_658 : (Cond.laysFinal "BlindMintModel" "BlindMintModel" "c" "[J") ∈ bm_big := bm_inT (bm_t3 (List.mem_of_getElem? (i := 178) rfl)) rfl
theorem bw_660 : (Cond.laysFinal "BlindMintModel" "BlindMintModel" "e" "[J") ∈ bm_big := bm_inT (bm_t3 (List.mem_of_getElem? (i := 180) rfl)) rfl
theorem bw_662 : (Cond.laysFinal "BlindMintModel" "BlindMintModel" "pair" "[J") ∈ bm_big := bm_inT (bm_t3 (List.mem_of_getElem? (i := 182) rfl)) rfl
theorem bw_664 : (Cond.laysFinal "BlindMintModel" "BlindMintModel" "left" "[Z") ∈ bm_big := bm_inT (bm_t3 (List.mem_of_getElem? (i := 184) rfl)) rfl
theorem bw_666 : (Cond.laysFinal "BlindMintModel" "BlindMintModel" "hashes" "[J") ∈ bm_big := bm_inT (bm_t3 (List.mem_of_getElem? (i := 186) rfl)) rfl
theorem bw_669 : (Cond.arrayClass FieldType.int) ∈ bm_big := bm_inT (bm_t3 (List.mem_of_getElem? (i := 189) rfl)) rfl
theorem bw_670 : (Cond.arrayClass FieldType.boolean) ∈ bm_big := bm_inT (bm_t3 (List.mem_of_getElem? (i := 190) rfl)) rfl
theorem bw_671 : (Cond.methodLink "BlindMintLaw" 60 ({ cls := "BlindMintModel", name := "thrown", desc := "()I" } : MethodName)) ∈ bm_big := bm_inT (bm_t3 (List.mem_of_getElem? (i := 191) rfl)) rfl
theorem bw_672 : (Cond.instanceMethod ({ cls := "BlindMintModel", name := "thrown", desc := "()I" } : MethodName)) ∈ bm_big := bm_inT (bm_t3 (List.mem_of_getElem? (i := 192) rfl)) rfl
theorem bw_673 : (Cond.selects "BlindMintModel" ({ cls := "BlindMintModel", name := "thrown", desc := "()I" } : MethodName) ({ cls := "BlindMintModel", name := "thrown", desc := "()I" } : MethodName)) ∈ bm_big := bm_inT (bm_t3 (List.mem_of_getElem? (i := 193) rfl)) rfl
theorem bw_674 : (Cond.code ({ cls := "BlindMintModel", name := "thrown", desc := "()I" } : MethodName) prog_12_method_3_code 1 (Option.some FieldType.int)) ∈ bm_big := bm_inT (bm_t3 (List.mem_of_getElem? (i := 194) rfl)) rfl
theorem bw_675 : (Cond.methodLink "BlindMintLaw" 59 ({ cls := "BlindMintModel", name := "withdraw", desc := "(IIJI)I" } : MethodName)) ∈ bm_big := bm_inT (bm_t3 (List.mem_of_getElem? (i := 195) rfl)) rfl
theorem bw_676 : (Cond.instanceMethod ({ cls := "BlindMintModel", name := "withdraw", desc := "(IIJI)I" } : MethodName)) ∈ bm_big := bm_inT (bm_t3 (List.mem_of_getElem? (i := 196) rfl)) rfl
theorem bw_677 : (Cond.selects "BlindMintModel" ({ cls := "BlindMintModel", name := "withdraw", desc := "(IIJI)I" } : MethodName) ({ cls := "BlindMintModel", name := "withdraw", desc := "(IIJI)I" } : MethodName)) ∈ bm_big := bm_inT (bm_t3 (List.mem_of_getElem? (i := 197) rfl)) rfl
theorem bw_678 : (Cond.code ({ cls := "BlindMintModel", name := "withdraw", desc := "(IIJI)I" } : MethodName) prog_12_method_21_code 10 (Option.some FieldType.int)) ∈ bm_big := bm_inT (bm_t3 (List.mem_of_getElem? (i := 198) rfl)) rfl
theorem bw_679 : (Cond.methodLink "BlindMintModel" 136 ({ cls := "BlindMintModel", name := "below", desc := "(II)Z" } : MethodName)) ∈ bm_big := bm_inT (bm_t3 (List.mem_of_getElem? (i := 199) rfl)) rfl
theorem bw_680 : (Cond.static ({ cls := "BlindMintModel", name := "below", desc := "(II)Z" } : MethodName)) ∈ bm_big := bm_inT (bm_t3 (List.mem_of_getElem? (i := 200) rfl)) rfl
theorem bw_681 : (Cond.code ({ cls := "BlindMintModel", name := "below", desc := "(II)Z" } : MethodName) prog_12_method_4_code 2 (Option.some FieldType.boolean)) ∈ bm_big := bm_inT (bm_t3 (List.mem_of_getElem? (i := 201) rfl)) rfl
theorem bw_682 : (Cond.methodLink "BlindMintModel" 140 ({ cls := "BlindMintModel", name := "fail", desc := "(I)I" } : MethodName)) ∈ bm_big := bm_inT (bm_t3 (List.mem_of_getElem? (i := 202) rfl)) rfl
theorem bw_684 : (Cond.instanceMethod ({ cls := "BlindMintModel", name := "fail", desc := "(I)I" } : MethodName)) ∈ bm_big := bm_inT (bm_t3 (List.mem_of_getElem? (i := 204) rfl)) rfl
theorem bw_685 : (Cond.code ({ cls := "BlindMintModel", name := "fail", desc := "(I)I" } : MethodName) prog_12_method_2_code 2 (Option.some FieldType.int)) ∈ bm_big := bm_inT (bm_t3 (List.mem_of_getElem? (i := 205) rfl)) rfl
theorem bw_686 : (Cond.methodLink "BlindMintModel" 144 ({ cls := "BlindMintModel", name := "worth", desc := "(I)I" } : MethodName)) ∈ bm_big := bm_inT (bm_t3 (List.mem_of_getElem? (i := 206) rfl)) rfl
theorem bw_687 : (Cond.static ({ cls := "BlindMintModel", name := "worth", desc := "(I)I" } : MethodName)) ∈ bm_big := bm_inT (bm_t3 (List.mem_of_getElem? (i := 207) rfl)) rfl
theorem bw_688 : (Cond.code ({ cls := "BlindMintModel", name := "worth", desc := "(I)I" } : MethodName) prog_12_method_11_code 1 (Option.some FieldType.int)) ∈ bm_big := bm_inT (bm_t3 (List.mem_of_getElem? (i := 208) rfl)) rfl
theorem bw_689 : (Cond.methodLink "BlindMintModel" 147 ({ cls := "BlindMintModel", name := "candidates", desc := "(IJI)V" } : MethodName)) ∈ bm_big := bm_inT (bm_t3 (List.mem_of_getElem? (i := 209) rfl)) rfl
theorem bw_691 : (Cond.instanceMethod ({ cls := "BlindMintModel", name := "candidates", desc := "(IJI)V" } : MethodName)) ∈ bm_big := bm_inT (bm_t3 (List.mem_of_getElem? (i := 211) rfl)) rfl
theorem bw_692 : (Cond.code ({ cls := "BlindMintModel", name := "candidates", desc := "(IJI)V" } : MethodName) prog_12_method_18_code 8 (Option.none : Option Jvm.ClassFile.FieldType)) ∈ bm_big := bm_inT (bm_t3 (List.mem_of_getElem? (i := 212) rfl)) rfl
theorem bw_693 : (Cond.constantLong "BlindMintModel" 128 (3)) ∈ bm_big := bm_inT (bm_t3 (List.mem_of_getElem? (i := 213) rfl)) rfl
theorem bw_694 : (Cond.methodLink "BlindMintModel" 125 ({ cls := "BlindMintModel", name := "hash2", desc := "(JJ)J" } : MethodName)) ∈ bm_big := bm_inT (bm_t3 (List.mem_of_getElem? (i := 214) rfl)) rfl
theorem bw_695 : (Cond.static ({ cls := "BlindMintModel", name := "hash2", desc := "(JJ)J" } : MethodName)) ∈ bm_big := bm_inT (bm_t3 (List.mem_of_getElem? (i := 215) rfl)) rfl
theorem bw_696 : (Cond.code ({ cls := "BlindMintModel", name := "hash2", desc := "(JJ)J" } : MethodName) prog_12_method_7_code 4 (Option.some FieldType.long)) ∈ bm_big := bm_inT (bm_t3 (List.mem_of_getElem? (i := 216) rfl)) rfl
theorem bw_697 : (Cond.constantLong "BlindMintModel" 82 (7)) ∈ bm_big := bm_inT (bm_t3 (List.mem_of_getElem? (i := 217) rfl)) rfl
theorem bw_698 : (Cond.methodLink "BlindMintModel" 84 ({ cls := "BlindMintModel", name := "absorb", desc := "(JJ)J" } : MethodName)) ∈ bm_big := bm_inT (bm_t3 (List.mem_of_getElem? (i := 218) rfl)) rfl
theorem bw_699 : (Cond.static ({ cls := "BlindMintModel", name := "absorb", desc := "(JJ)J" } : MethodName)) ∈ bm_big := bm_inT (bm_t3 (List.mem_of_getElem? (i := 219) rfl)) rfl
theorem bw_700 : (Cond.code ({ cls := "BlindMintModel", name := "absorb", desc := "(JJ)J" } : MethodName) prog_12_method_5_code 6 (Option.some FieldType.long)) ∈ bm_big := bm_inT (bm_t3 (List.mem_of_getElem? (i := 220) rfl)) rfl
theorem bw_701 : (Cond.constantLong "BlindMintModel" 76 (6364136223846793005)) ∈ bm_big := bm_inT (bm_t3 (List.mem_of_getElem? (i := 221) rfl)) rfl
theorem bw_702 : (Cond.constantLong "BlindMintModel" 78 (1442695040888963407)) ∈ bm_big := bm_inT (bm_t3 (List.mem_of_getElem? (i := 222) rfl)) rfl
theorem bw_703 : (Cond.methodLink "BlindMintModel" 88 ({ cls := "BlindMintModel", name := "low", desc := "(J)J" } : MethodName)) ∈ bm_big := bm_inT (bm_t3 (List.mem_of_getElem? (i := 223) rfl)) rfl
theorem bw_704 : (Cond.static ({ cls := "BlindMintModel", name := "low", desc := "(J)J" } : MethodName)) ∈ bm_big := bm_inT (bm_t3 (List.mem_of_getElem? (i := 224) rfl)) rfl
theorem bw_705 : (Cond.code ({ cls := "BlindMintModel", name := "low", desc := "(J)J" } : MethodName) prog_12_method_6_code 2 (Option.some FieldType.long)) ∈ bm_big := bm_inT (bm_t3 (List.mem_of_getElem? (i := 225) rfl)) rfl
theorem bw_706 : (Cond.constantLong "BlindMintModel" 80 (576460752303423487)) ∈ bm_big := bm_inT (bm_t3 (List.mem_of_getElem? (i := 226) rfl)) rfl
theorem bw_707 : (Cond.constantLong "BlindMintModel" 108 (2)) ∈ bm_big := bm_inT (bm_t3 (List.mem_of_getElem? (i := 227) rfl)) rfl
theorem bw_708 : (Cond.constantLong "BlindMintModel" 130 (1000)) ∈ bm_big := bm_inT (bm_t3 (List.mem_of_getElem? (i := 228) rfl)) rfl
theorem bw_709 : (Cond.methodLink "BlindMintModel" 151 ({ cls := "BlindMintModel", name := "open", desc := "(I)I" } : MethodName)) ∈ bm_big := bm_inT (bm_t3 (List.mem_of_getElem? (i := 229) rfl)) rfl
theorem bw_711 : (Cond.instanceMethod ({ cls := "BlindMintModel", name := "open", desc := "(I)I" } : MethodName)) ∈ bm_big := bm_inT (bm_t3 (List.mem_of_getElem? (i := 231) rfl)) rfl
theorem bw_712 : (Cond.code ({ cls := "BlindMintModel", name := "open", desc := "(I)I" } : MethodName) prog_12_method_19_code 6 (Option.some FieldType.int)) ∈ bm_big := bm_inT (bm_t3 (List.mem_of_getElem? (i := 232) rfl)) rfl
theorem bw_713 : (Cond.constantLong "BlindMintModel" 132 (6)) ∈ bm_big := bm_inT (bm_t3 (List.mem_of_getElem? (i := 233) rfl)) rfl
theorem bw_714 : (Cond.constantLong "BlindMintModel" 134 (5)) ∈ bm_big := bm_inT (bm_t3 (List.mem_of_getElem? (i := 234) rfl)) rfl
theorem bw_715 : (Cond.methodLink "BlindMintModel" 154 ({ cls := "BlindMintModel", name := "least", desc := "()I" } : MethodName)) ∈ bm_big := bm_inT (bm_t3 (List.mem_of_getElem? (i := 235) rfl)) rfl
theorem bw_717 : (Cond.instanceMethod ({ cls := "BlindMintModel", name := "least", desc := "()I" } : MethodName)) ∈ bm_big := bm_inT (bm_t3 (List.mem_of_getElem? (i := 237) rfl)) rfl
theorem bw_718 : (Cond.code ({ cls := "BlindMintModel", name := "least", desc := "()I" } : MethodName) prog_12_method_20_code 3 (Option.some FieldType.int)) ∈ bm_big := bm_inT (bm_t3 (List.mem_of_getElem? (i := 238) rfl)) rfl
theorem bw_719 : (Cond.methodLink "BlindMintModel" 158 ({ cls := "BlindMintModel", name := "numberOf", desc := "(J)J" } : MethodName)) ∈ bm_big := bm_inT (bm_t3 (List.mem_of_getElem? (i := 239) rfl)) rfl
theorem bw_721 : (Cond.instanceMethod ({ cls := "BlindMintModel", name := "numberOf", desc := "(J)J" } : MethodName)) ∈ bm_big := bm_inT (bm_t4 (List.mem_of_getElem? (i := 1) rfl)) rfl
theorem bw_722 : (Cond.code ({ cls := "BlindMintModel", name := "numberOf", desc := "(J)J" } : MethodName) prog_12_method_9_code 6 (Option.some FieldType.long)) ∈ bm_big := bm_inT (bm_t4 (List.mem_of_getElem? (i := 2) rfl)) rfl
theorem bw_723 : (Cond.methodLink "BlindMintModel" 161 ({ cls := "BlindMintModel", name := "signed", desc := "(JI)J" } : MethodName)) ∈ bm_big := bm_inT (bm_t4 (List.mem_of_getElem? (i := 3) rfl)) rfl
theorem bw_724 : (Cond.static ({ cls := "BlindMintModel", name := "signed", desc := "(JI)J" } : MethodName)) ∈ bm_big := bm_inT (bm_t4 (List.mem_of_getElem? (i := 4) rfl)) rfl
theorem bw_725 : (Cond.code ({ cls := "BlindMintModel", name := "signed", desc := "(JI)J" } : MethodName) prog_12_method_15_code 7 (Option.some FieldType.long)) ∈ bm_big := bm_inT (bm_t4 (List.mem_of_getElem? (i := 5) rfl)) rfl
theorem bw_726 : (Cond.methodLink "BlindMintModel" 104 ({ cls := "BlindMintModel", name := "factor", desc := "(IZ)J" } : MethodName)) ∈ bm_big := bm_inT (bm_t4 (List.mem_of_getElem? (i := 6) rfl)) rfl
theorem bw_727 : (Cond.static ({ cls := "BlindMintModel", name := "factor", desc := "(IZ)J" } : MethodName)) ∈ bm_big := bm_inT (bm_t4 (List.mem_of_getElem? (i := 7) rfl)) rfl
theorem bw_728 : (Cond.code ({ cls := "BlindMintModel", name := "factor", desc := "(IZ)J" } : MethodName) prog_12_method_10_code 2 (Option.some FieldType.long)) ∈ bm_big := bm_inT (bm_t4 (List.mem_of_getElem? (i := 8) rfl)) rfl
theorem bw_729 : (Cond.constantLong "BlindMintModel" 92 (1000000007)) ∈ bm_big := bm_inT (bm_t4 (List.mem_of_getElem? (i := 9) rfl)) rfl
theorem bw_730 : (Cond.constantLong "BlindMintModel" 94 (1073741789)) ∈ bm_big := bm_inT (bm_t4 (List.mem_of_getElem? (i := 10) rfl)) rfl
theorem bw_731 : (Cond.constantLong "BlindMintModel" 96 (900000011)) ∈ bm_big := bm_inT (bm_t4 (List.mem_of_getElem? (i := 11) rfl)) rfl
theorem bw_732 : (Cond.constantLong "BlindMintModel" 98 (998244389)) ∈ bm_big := bm_inT (bm_t4 (List.mem_of_getElem? (i := 12) rfl)) rfl
theorem bw_733 : (Cond.constantLong "BlindMintModel" 100 (1020000011)) ∈ bm_big := bm_inT (bm_t4 (List.mem_of_getElem? (i := 13) rfl)) rfl
theorem bw_734 : (Cond.constantLong "BlindMintModel" 102 (1050000041)) ∈ bm_big := bm_inT (bm_t4 (List.mem_of_getElem? (i := 14) rfl)) rfl
theorem bw_735 : (Cond.methodLink "BlindMintModel" 116 ({ cls := "BlindMintModel", name := "undo", desc := "(J)J" } : MethodName)) ∈ bm_big := bm_inT (bm_t4 (List.mem_of_getElem? (i := 15) rfl)) rfl
theorem bw_736 : (Cond.static ({ cls := "BlindMintModel", name := "undo", desc := "(J)J" } : MethodName)) ∈ bm_big := bm_inT (bm_t4 (List.mem_of_getElem? (i := 16) rfl)) rfl
theorem bw_737 : (Cond.code ({ cls := "BlindMintModel", name := "undo", desc := "(J)J" } : MethodName) prog_12_method_14_code 4 (Option.some FieldType.long)) ∈ bm_big := bm_inT (bm_t4 (List.mem_of_getElem? (i := 17) rfl)) rfl
theorem bw_738 : (Cond.constantLong "BlindMintModel" 114 (17)) ∈ bm_big := bm_inT (bm_t4 (List.mem_of_getElem? (i := 18) rfl)) rfl
theorem bw_739 : (Cond.methodLink "BlindMintModel" 110 ({ cls := "BlindMintModel", name := "power", desc := "(JJJ)J" } : MethodName)) ∈ bm_big := bm_inT (bm_t4 (List.mem_of_getElem? (i := 19) rfl)) rfl
theorem bw_740 : (Cond.static ({ cls := "BlindMintModel", name := "power", desc := "(JJJ)J" } : MethodName)) ∈ bm_big := bm_inT (bm_t4 (List.mem_of_getElem? (i := 20) rfl)) rfl
theorem bw_741 : (Cond.code ({ cls := "BlindMintModel", name := "power", desc := "(JJJ)J" } : MethodName) prog_12_method_12_code 12 (Option.some FieldType.long)) ∈ bm_big := bm_inT (bm_t4 (List.mem_of_getElem? (i := 21) rfl)) rfl
theorem bw_742 : (Cond.methodLink "BlindMintModel" 119 ({ cls := "BlindMintModel", name := "join", desc := "(JJI)J" } : MethodName)) ∈ bm_big := bm_inT (bm_t4 (List.mem_of_getElem? (i := 22) rfl)) rfl
theorem bw_743 : (Cond.static ({ cls := "BlindMintModel", name := "join", desc := "(JJI)J" } : MethodName)) ∈ bm_big := bm_inT (bm_t4 (List.mem_of_getElem? (i := 23) rfl)) rfl
theorem bw_744 : (Cond.code ({ cls := "BlindMintModel", name := "join", desc := "(JJI)J" } : MethodName) prog_12_method_13_code 13 (Option.some FieldType.long)) ∈ bm_big := bm_inT (bm_t4 (List.mem_of_getElem? (i := 24) rfl)) rfl
theorem bw_745 : (Cond.methodLink "BlindMintModel" 165 ({ cls := "BlindMintModel", name := "blind", desc := "(JJI)J" } : MethodName)) ∈ bm_big := bm_inT (bm_t4 (List.mem_of_getElem? (i := 25) rfl)) rfl
theorem bw_746 : (Cond.static ({ cls := "BlindMintModel", name := "blind", desc := "(JJI)J" } : MethodName)) ∈ bm_big := bm_inT (bm_t4 (List.mem_of_getElem? (i := 26) rfl)) rfl
theorem bw_747 : (Cond.code ({ cls := "BlindMintModel", name := "blind", desc := "(JJI)J" } : MethodName) prog_12_method_17_code 11 (Option.some FieldType.long)) ∈ bm_big := bm_inT (bm_t4 (List.mem_of_getElem? (i := 27) rfl)) rfl
theorem bw_748 : (Cond.constantLong "BlindMintModel" 123 (100)) ∈ bm_big := bm_inT (bm_t4 (List.mem_of_getElem? (i := 28) rfl)) rfl
theorem bw_749 : (Cond.methodLink "BlindMintLaw" 67 ({ cls := "BlindMintModel", name := "choose", desc := "(II)I" } : MethodName)) ∈ bm_big := bm_inT (bm_t4 (List.mem_of_getElem? (i := 29) rfl)) rfl
theorem bw_750 : (Cond.instanceMethod ({ cls := "BlindMintModel", name := "choose", desc := "(II)I" } : MethodName)) ∈ bm_big := bm_inT (bm_t4 (List.mem_of_getElem? (i := 30) rfl)) rfl
theorem bw_751 : (Cond.selects "BlindMintModel" ({ cls := "BlindMintModel", name := "choose", desc := "(II)I" } : MethodName) ({ cls := "BlindMintModel", name := "choose", desc := "(II)I" } : MethodName)) ∈ bm_big := bm_inT (bm_t4 (List.mem_of_getElem? (i := 31) rfl)) rfl
theorem bw_752 : (Cond.code ({ cls := "BlindMintModel", name := "choose", desc := "(II)I" } : MethodName) prog_12_method_22_code 9 (Option.some FieldType.int)) ∈ bm_big := bm_inT (bm_t4 (List.mem_of_getElem? (i := 32) rfl)) rfl
theorem bw_753 : (Cond.methodLink "BlindMintLaw" 71 ({ cls := "BlindMintModel", name := "spend", desc := "(IIII)I" } : MethodName)) ∈ bm_big := bm_inT (bm_t4 (List.mem_of_getElem? (i := 33) rfl)) rfl
theorem bw_754 : (Cond.instanceMethod ({ cls := "BlindMintModel", name := "spend", desc := "(IIII)I" } : MethodName)) ∈ bm_big := bm_inT (bm_t4 (List.mem_of_getElem? (i := 34) rfl)) rfl
theorem bw_755 : (Cond.selects "BlindMintModel" ({ cls := "BlindMintModel", name := "spend", desc := "(IIII)I" } : MethodName) ({ cls := "BlindMintModel", name := "spend", desc := "(IIII)I" } : MethodName)) ∈ bm_big := bm_inT (bm_t4 (List.mem_of_getElem? (i := 35) rfl)) rfl
theorem bw_756 : (Cond.code ({ cls := "BlindMintModel", name := "spend", desc := "(IIII)I" } : MethodName) prog_12_method_24_code 14 (Option.some FieldType.int)) ∈ bm_big := bm_inT (bm_t4 (List.mem_of_getElem? (i := 36) rfl)) rfl
theorem bw_757 : (Cond.methodLink "BlindMintModel" 168 ({ cls := "BlindMintModel", name := "noCoin", desc := "(II)Z" } : MethodName)) ∈ bm_big := bm_inT (bm_t4 (List.mem_of_getElem? (i := 37) rfl)) rfl
theorem bw_759 : (Cond.instanceMethod ({ cls := "BlindMintModel", name := "noCoin", desc := "(II)Z" } : MethodName)) ∈ bm_big := bm_inT (bm_t4 (List.mem_of_getElem? (i := 39) rfl)) rfl
theorem bw_760 : (Cond.code ({ cls := "BlindMintModel", name := "noCoin", desc := "(II)Z" } : MethodName) prog_12_method_23_code 3 (Option.some FieldType.boolean)) ∈ bm_big := bm_inT (bm_t4 (List.mem_of_getElem? (i := 40) rfl)) rfl
theorem bw_761 : (Cond.methodLink "BlindMintModel" 174 ({ cls := "BlindMintModel", name := "hash3", desc := "(JJJ)J" } : MethodName)) ∈ bm_big := bm_inT (bm_t4 (List.mem_of_getElem? (i := 41) rfl)) rfl
theorem bw_762 : (Cond.static ({ cls := "BlindMintModel", name := "hash3", desc := "(JJJ)J" } : MethodName)) ∈ bm_big := bm_inT (bm_t4 (List.mem_of_getElem? (i := 42) rfl)) rfl
theorem bw_763 : (Cond.code ({ cls := "BlindMintModel", name := "hash3", desc := "(JJJ)J" } : MethodName) prog_12_method_8_code 6 (Option.some FieldType.long)) ∈ bm_big := bm_inT (bm_t4 (List.mem_of_getElem? (i := 43) rfl)) rfl
theorem bw_764 : (Cond.methodLink "BlindMintLaw" 75 ({ cls := "BlindMintModel", name := "tamper", desc := "(IIJ)J" } : MethodName)) ∈ bm_big := bm_inT (bm_t4 (List.mem_of_getElem? (i := 44) rfl)) rfl
theorem bw_765 : (Cond.instanceMethod ({ cls := "BlindMintModel", name := "tamper", desc := "(IIJ)J" } : MethodName)) ∈ bm_big := bm_inT (bm_t4 (List.mem_of_getElem? (i := 45) rfl)) rfl
theorem bw_766 : (Cond.selects "BlindMintModel" ({ cls := "BlindMintModel", name := "tamper", desc := "(IIJ)J" } : MethodName) ({ cls := "BlindMintModel", name := "tamper", desc := "(IIJ)J" } : MethodName)) ∈ bm_big := bm_inT (bm_t4 (List.mem_of_getElem? (i := 46) rfl)) rfl
theorem bw_767 : (Cond.code ({ cls := "BlindMintModel", name := "tamper", desc := "(IIJ)J" } : MethodName) prog_12_method_26_code 5 (Option.some FieldType.long)) ∈ bm_big := bm_inT (bm_t4 (List.mem_of_getElem? (i := 47) rfl)) rfl
theorem bw_768 : (Cond.methodLink "BlindMintModel" 177 ({ cls := "BlindMintModel", name := "noNumber", desc := "(II)Z" } : MethodName)) ∈ bm_big := bm_inT (bm_t4 (List.mem_of_getElem? (i := 48) rfl)) rfl
theorem bw_770 : (Cond.instanceMethod ({ cls := "BlindMintModel", name := "noNumber", desc := "(II)Z" } : MethodName)) ∈ bm_big := bm_inT (bm_t4 (List.mem_of_getElem? (i := 50) rfl)) rfl
theorem bw_771 : (Cond.code ({ cls := "BlindMintModel", name := "noNumber", desc := "(II)Z" } : MethodName) prog_12_method_25_code 3 (Option.some FieldType.boolean)) ∈ bm_big := bm_inT (bm_t4 (List.mem_of_getElem? (i := 51) rfl)) rfl
theorem bw_772 : (Cond.methodLink "BlindMintLaw" 78 ({ cls := "BlindMintModel", name := "number", desc := "(II)J" } : MethodName)) ∈ bm_big := bm_inT (bm_t4 (List.mem_of_getElem? (i := 52) rfl)) rfl
theorem bw_773 : (Cond.instanceMethod ({ cls := "BlindMintModel", name := "number", desc := "(II)J" } : MethodName)) ∈ bm_big := bm_inT (bm_t4 (List.mem_of_getElem? (i := 53) rfl)) rfl
theorem bw_774 : (Cond.selects "BlindMintModel" ({ cls := "BlindMintModel", name := "number", desc := "(II)J" } : MethodName) ({ cls := "BlindMintModel", name := "number", desc := "(II)J" } : MethodName)) ∈ bm_big := bm_inT (bm_t4 (List.mem_of_getElem? (i := 54) rfl)) rfl
theorem bw_775 : (Cond.code ({ cls := "BlindMintModel", name := "number", desc := "(II)J" } : MethodName) prog_12_method_27_code 3 (Option.some FieldType.long)) ∈ bm_big := bm_inT (bm_t4 (List.mem_of_getElem? (i := 55) rfl)) rfl
theorem bw_776 : (Cond.methodLink "BlindMintLaw" 83 ({ cls := "BlindMintModel", name := "good", desc := "(I)Z" } : MethodName)) ∈ bm_big := bm_inT (bm_t4 (List.mem_of_getElem? (i := 56) rfl)) rfl
theorem bw_777 : (Cond.instanceMethod ({ cls := "BlindMintModel", name := "good", desc := "(I)Z" } : MethodName)) ∈ bm_big := bm_inT (bm_t4 (List.mem_of_getElem? (i := 57) rfl)) rfl
theorem bw_778 : (Cond.selects "BlindMintModel" ({ cls := "BlindMintModel", name := "good", desc := "(I)Z" } : MethodName) ({ cls := "BlindMintModel", name := "good", desc := "(I)Z" } : MethodName)) ∈ bm_big := bm_inT (bm_t4 (List.mem_of_getElem? (i := 58) rfl)) rfl
theorem bw_779 : (Cond.code ({ cls := "BlindMintModel", name := "good", desc := "(I)Z" } : MethodName) prog_12_method_30_code 2 (Option.some FieldType.boolean)) ∈ bm_big := bm_inT (bm_t4 (List.mem_of_getElem? (i := 59) rfl)) rfl
theorem bw_780 : (Cond.methodLink "BlindMintModel" 188 ({ cls := "BlindMintModel", name := "isGood", desc := "(I)Z" } : MethodName)) ∈ bm_big := bm_inT (bm_t4 (List.mem_of_getElem? (i := 60) rfl)) rfl
theorem bw_782 : (Cond.instanceMethod ({ cls := "BlindMintModel", name := "isGood", desc := "(I)Z" } : MethodName)) ∈ bm_big := bm_inT (bm_t4 (List.mem_of_getElem? (i := 62) rfl)) rfl
theorem bw_783 : (Cond.code ({ cls := "BlindMintModel", name := "isGood", desc := "(I)Z" } : MethodName) prog_12_method_29_code 9 (Option.some FieldType.boolean)) ∈ bm_big := bm_inT (bm_t4 (List.mem_of_getElem? (i := 63) rfl)) rfl
theorem bw_784 : (Cond.methodLink "BlindMintModel" 180 ({ cls := "BlindMintModel", name := "choiceOf", desc := "(I)J" } : MethodName)) ∈ bm_big := bm_inT (bm_t4 (List.mem_of_getElem? (i := 64) rfl)) rfl
theorem bw_786 : (Cond.instanceMethod ({ cls := "BlindMintModel", name := "choiceOf", desc := "(I)J" } : MethodName)) ∈ bm_big := bm_inT (bm_t4 (List.mem_of_getElem? (i := 66) rfl)) rfl
theorem bw_787 : (Cond.code ({ cls := "BlindMintModel", name := "choiceOf", desc := "(I)J" } : MethodName) prog_12_method_28_code 2 (Option.some FieldType.long)) ∈ bm_big := bm_inT (bm_t4 (List.mem_of_getElem? (i := 67) rfl)) rfl
theorem bw_788 : (Cond.methodLink "BlindMintModel" 184 ({ cls := "BlindMintModel", name := "isSignature", desc := "(JJI)Z" } : MethodName)) ∈ bm_big := bm_inT (bm_t4 (List.mem_of_getElem? (i := 68) rfl)) rfl
theorem bw_789 : (Cond.static ({ cls := "BlindMintModel", name := "isSignature", desc := "(JJI)Z" } : MethodName)) ∈ bm_big := bm_inT (bm_t4 (List.mem_of_getElem? (i := 69) rfl)) rfl
theorem bw_790 : (Cond.code ({ cls := "BlindMintModel", name := "isSignature", desc := "(JJI)Z" } : MethodName) prog_12_method_16_code 9 (Option.some FieldType.boolean)) ∈ bm_big := bm_inT (bm_t4 (List.mem_of_getElem? (i := 70) rfl)) rfl
theorem bw_791 : (Cond.methodLink "BlindMintLaw" 86 ({ cls := "BlindMintModel", name := "deposit", desc := "(II)I" } : MethodName)) ∈ bm_big := bm_inT (bm_t4 (List.mem_of_getElem? (i := 71) rfl)) rfl
theorem bw_792 : (Cond.instanceMethod ({ cls := "BlindMintModel", name := "deposit", desc := "(II)I" } : MethodName)) ∈ bm_big := bm_inT (bm_t4 (List.mem_of_getElem? (i := 72) rfl)) rfl
theorem bw_793 : (Cond.selects "BlindMintModel" ({ cls := "BlindMintModel", name := "deposit", desc := "(II)I" } : MethodName) ({ cls := "BlindMintModel", name := "deposit", desc := "(II)I" } : MethodName)) ∈ bm_big := bm_inT (bm_t4 (List.mem_of_getElem? (i := 73) rfl)) rfl
theorem bw_794 : (Cond.code ({ cls := "BlindMintModel", name := "deposit", desc := "(II)I" } : MethodName) prog_12_method_33_code 6 (Option.some FieldType.int)) ∈ bm_big := bm_inT (bm_t4 (List.mem_of_getElem? (i := 74) rfl)) rfl
theorem bw_795 : (Cond.methodLink "BlindMintModel" 199 ({ cls := "BlindMintModel", name := "noted", desc := "(J)I" } : MethodName)) ∈ bm_big := bm_inT (bm_t4 (List.mem_of_getElem? (i := 75) rfl)) rfl
theorem bw_797 : (Cond.instanceMethod ({ cls := "BlindMintModel", name := "noted", desc := "(J)I" } : MethodName)) ∈ bm_big := bm_inT (bm_t4 (List.mem_of_getElem? (i := 77) rfl)) rfl
theorem bw_798 : (Cond.code ({ cls := "BlindMintModel", name := "noted", desc := "(J)I" } : MethodName) prog_12_method_31_code 6 (Option.some FieldType.int)) ∈ bm_big := bm_inT (bm_t4 (List.mem_of_getElem? (i := 78) rfl)) rfl
theorem bw_799 : (Cond.methodLink "BlindMintModel" 203 ({ cls := "BlindMintModel", name := "trace", desc := "(II)V" } : MethodName)) ∈ bm_big := bm_inT (bm_t4 (List.mem_of_getElem? (i := 79) rfl)) rfl
theorem bw_801 : (Cond.instanceMethod ({ cls := "BlindMintModel", name := "trace", desc := "(II)V" } : MethodName)) ∈ bm_big := bm_inT (bm_t4 (List.mem_of_getElem? (i := 81) rfl)) rfl
theorem bw_802 : (Cond.code ({ cls := "BlindMintModel", name := "trace", desc := "(II)V" } : MethodName) prog_12_method_32_code 8 (Option.none : Option Jvm.ClassFile.FieldType)) ∈ bm_big := bm_inT (bm_t4 (List.mem_of_getElem? (i := 82) rfl)) rfl
theorem bw_803 : (Cond.constantLong "BlindMintModel" 195 (15)) ∈ bm_big := bm_inT (bm_t4 (List.mem_of_getElem? (i := 83) rfl)) rfl
theorem bw_804 : (Cond.constantLong "BlindMintModel" 197 (1003)) ∈ bm_big := bm_inT (bm_t4 (List.mem_of_getElem? (i := 84) rfl)) rfl
theorem bw_805 : (Cond.methodLink "BlindMintLaw" 90 ({ cls := "BlindMintModel", name := "traced", desc := "()I" } : MethodName)) ∈ bm_big := bm_inT (bm_t4 (List.mem_of_getElem? (i := 85) rfl)) rfl
theorem bw_806 : (Cond.instanceMethod ({ cls := "BlindMintModel", name := "traced", desc := "()I" } : MethodName)) ∈ bm_big := bm_inT (bm_t4 (List.mem_of_getElem? (i := 86) rfl)) rfl
theorem bw_807 : (Cond.selects "BlindMintModel" ({ cls := "BlindMintModel", name := "traced", desc := "()I" } : MethodName) ({ cls := "BlindMintModel", name := "traced", desc := "()I" } : MethodName)) ∈ bm_big := bm_inT (bm_t4 (List.mem_of_getElem? (i := 87) rfl)) rfl
theorem bw_808 : (Cond.code ({ cls := "BlindMintModel", name := "traced", desc := "()I" } : MethodName) prog_12_method_34_code 1 (Option.some FieldType.int)) ∈ bm_big := bm_inT (bm_t4 (List.mem_of_getElem? (i := 88) rfl)) rfl
theorem bw_809 : (Cond.methodLink "BlindMintLaw" 94 ({ cls := "BlindMintModel", name := "balance", desc := "(I)I" } : MethodName)) ∈ bm_big := bm_inT (bm_t4 (List.mem_of_getElem? (i := 89) rfl)) rfl
theorem bw_810 : (Cond.instanceMethod ({ cls := "BlindMintModel", name := "balance", desc := "(I)I" } : MethodName)) ∈ bm_big := bm_inT (bm_t4 (List.mem_of_getElem? (i := 90) rfl)) rfl
theorem bw_811 : (Cond.selects "BlindMintModel" ({ cls := "BlindMintModel", name := "balance", desc := "(I)I" } : MethodName) ({ cls := "BlindMintModel", name := "balance", desc := "(I)I" } : MethodName)) ∈ bm_big := bm_inT (bm_t4 (List.mem_of_getElem? (i := 91) rfl)) rfl
theorem bw_812 : (Cond.code ({ cls := "BlindMintModel", name := "balance", desc := "(I)I" } : MethodName) prog_12_method_35_code 2 (Option.some FieldType.int)) ∈ bm_big := bm_inT (bm_t4 (List.mem_of_getElem? (i := 92) rfl)) rfl
theorem bw_813 : (Cond.methodLink "BlindMintLaw" 98 ({ cls := "BlindMintModel", name := "coins", desc := "(I)I" } : MethodName)) ∈ bm_big := bm_inT (bm_t4 (List.mem_of_getElem? (i := 93) rfl)) rfl
theorem bw_814 : (Cond.instanceMethod ({ cls := "BlindMintModel", name := "coins", desc := "(I)I" } : MethodName)) ∈ bm_big := bm_inT (bm_t4 (List.mem_of_getElem? (i := 94) rfl)) rfl
theorem bw_815 : (Cond.selects "BlindMintModel" ({ cls := "BlindMintModel", name := "coins", desc := "(I)I" } : MethodName) ({ cls := "BlindMintModel", name := "coins", desc := "(I)I" } : MethodName)) ∈ bm_big := bm_inT (bm_t4 (List.mem_of_getElem? (i := 95) rfl)) rfl
theorem bw_816 : (Cond.code ({ cls := "BlindMintModel", name := "coins", desc := "(I)I" } : MethodName) prog_12_method_36_code 2 (Option.some FieldType.int)) ∈ bm_big := bm_inT (bm_t4 (List.mem_of_getElem? (i := 96) rfl)) rfl
theorem bw_817 : (Cond.methodLink "BlindMintLaw" 101 ({ cls := "BlindMintModel", name := "coin", desc := "(II)J" } : MethodName)) ∈ bm_big := bm_inT (bm_t4 (List.mem_of_getElem? (i := 97) rfl)) rfl
theorem bw_818 : (Cond.instanceMethod ({ cls := "BlindMintModel", name := "coin", desc := "(II)J" } : MethodName)) ∈ bm_big := bm_inT (bm_t4 (List.mem_of_getElem? (i := 98) rfl)) rfl
theorem bw_819 : (Cond.selects "BlindMintModel" ({ cls := "BlindMintModel", name := "coin", desc := "(II)J" } : MethodName) ({ cls := "BlindMintModel", name := "coin", desc := "(II)J" } : MethodName)) ∈ bm_big := bm_inT (bm_t4 (List.mem_of_getElem? (i := 99) rfl)) rfl
theorem bw_820 : (Cond.code ({ cls := "BlindMintModel", name := "coin", desc := "(II)J" } : MethodName) prog_12_method_37_code 3 (Option.some FieldType.long)) ∈ bm_big := bm_inT (bm_t4 (List.mem_of_getElem? (i := 100) rfl)) rfl
theorem bw_821 : (Cond.methodLink "BlindMintLaw" 104 ({ cls := "BlindMintModel", name := "signature", desc := "(II)J" } : MethodName)) ∈ bm_big := bm_inT (bm_t4 (List.mem_of_getElem? (i := 101) rfl)) rfl
theorem bw_822 : (Cond.instanceMethod ({ cls := "BlindMintModel", name := "signature", desc := "(II)J" } : MethodName)) ∈ bm_big := bm_inT (bm_t4 (List.mem_of_getElem? (i := 102) rfl)) rfl
theorem bw_823 : (Cond.selects "BlindMintModel" ({ cls := "BlindMintModel", name := "signature", desc := "(II)J" } : MethodName) ({ cls := "BlindMintModel", name := "signature", desc := "(II)J" } : MethodName)) ∈ bm_big := bm_inT (bm_t4 (List.mem_of_getElem? (i := 103) rfl)) rfl
theorem bw_824 : (Cond.code ({ cls := "BlindMintModel", name := "signature", desc := "(II)J" } : MethodName) prog_12_method_38_code 3 (Option.some FieldType.long)) ∈ bm_big := bm_inT (bm_t4 (List.mem_of_getElem? (i := 104) rfl)) rfl
theorem bw_825 : (Cond.methodLink "BlindMintLaw" 109 ({ cls := "BlindMintModel", name := "blinded", desc := "()J" } : MethodName)) ∈ bm_big := bm_inT (bm_t4 (List.mem_of_getElem? (i := 105) rfl)) rfl
theorem bw_826 : (Cond.instanceMethod ({ cls := "BlindMintModel", name := "blinded", desc := "()J" } : MethodName)) ∈ bm_big := bm_inT (bm_t4 (List.mem_of_getElem? (i := 106) rfl)) rfl
theorem bw_827 : (Cond.selects "BlindMintModel" ({ cls := "BlindMintModel", name := "blinded", desc := "()J" } : MethodName) ({ cls := "BlindMintModel", name := "blinded", desc := "()J" } : MethodName)) ∈ bm_big := bm_inT (bm_t4 (List.mem_of_getElem? (i := 107) rfl)) rfl
theorem bw_828 : (Cond.code ({ cls := "BlindMintModel", name := "blinded", desc := "()J" } : MethodName) prog_12_method_39_code 1 (Option.some FieldType.long)) ∈ bm_big := bm_inT (bm_t4 (List.mem_of_getElem? (i := 108) rfl)) rfl
theorem bw_829 : (Cond.methodLink "BlindMintLaw" 113 ({ cls := "BlindMintModel", name := "count", desc := "(I)I" } : MethodName)) ∈ bm_big := bm_inT (bm_t4 (List.mem_of_getElem? (i := 109) rfl)) rfl
theorem bw_830 : (Cond.instanceMethod ({ cls := "BlindMintModel", name := "count", desc := "(I)I" } : MethodName)) ∈ bm_big := bm_inT (bm_t4 (List.mem_of_getElem? (i := 110) rfl)) rfl
theorem bw_831 : (Cond.selects "BlindMintModel" ({ cls := "BlindMintModel", name := "count", desc := "(I)I" } : MethodName) ({ cls := "BlindMintModel", name := "count", desc := "(I)I" } : MethodName)) ∈ bm_big := bm_inT (bm_t4 (List.mem_of_getElem? (i := 111) rfl)) rfl
theorem bw_832 : (Cond.code ({ cls := "BlindMintModel", name := "count", desc := "(I)I" } : MethodName) prog_12_method_40_code 2 (Option.some FieldType.int)) ∈ bm_big := bm_inT (bm_t4 (List.mem_of_getElem? (i := 112) rfl)) rfl
theorem bw_833 : (Cond.constantLong "BlindMintLaw" 52 (4294967295)) ∈ bm_big := bm_inT (bm_t4 (List.mem_of_getElem? (i := 113) rfl)) rfl
theorem bw_834 : (Cond.sameMethod "java/lang/Throwable" "java/lang/Throwable" "fillInStackTrace" "(I)Ljava/lang/Throwable;") ∈ bm_big := bm_inT (bm_t4 (List.mem_of_getElem? (i := 114) rfl)) rfl
theorem bw_835 : (Cond.fieldLink "BlindMint" 77 "BlindMint$Denomination" "worth" "I") ∈ bm_big := bm_inT (bm_t4 (List.mem_of_getElem? (i := 115) rfl)) rfl
theorem bw_836 : (Cond.fieldLink "BlindMint$Denomination" 36 "BlindMint$Denomination" "p" "J") ∈ bm_big := bm_inT (bm_t4 (List.mem_of_getElem? (i := 116) rfl)) rfl
theorem bw_837 : (Cond.fieldLink "BlindMint$Denomination" 40 "BlindMint$Denomination" "q" "J") ∈ bm_big := bm_inT (bm_t4 (List.mem_of_getElem? (i := 117) rfl)) rfl
theorem bs_0 : (Cond.selects "BlindMint" ({ cls := "BlindMint", name := "findPayment", desc := "(I)LBlindMint$Payment;" } : MethodName) ({ cls := "BlindMint", name := "findPayment", desc := "(I)LBlindMint$Payment;" } : MethodName)) ∈ bm_big := bm_inS (List.mem_of_getElem? (i := 0) rfl) rfl
theorem bs_1 : (Cond.selects "BlindMint" ({ cls := "BlindMint", name := "isGood", desc := "(LBlindMint$Payment;)Z" } : MethodName) ({ cls := "BlindMint", name := "isGood", desc := "(LBlindMint$Payment;)Z" } : MethodName)) ∈ bm_big := bm_inS (List.mem_of_getElem? (i := 1) rfl) rfl
theorem bs_2 : (Cond.selects "java/lang/Throwable" ({ cls := "java/lang/Throwable", name := "fillInStackTrace", desc := "(I)Ljava/lang/Throwable;" } : MethodName) ({ cls := "java/lang/Throwable", name := "fillInStackTrace", desc := "(I)Ljava/lang/Throwable;" } : MethodName)) ∈ bm_big := bm_inS (List.mem_of_getElem? (i := 2) rfl) rfl
theorem bs_3 : (Cond.selects "BlindMint$Proposal" ({ cls := "BlindMint$Proposal", name := "open", desc := "()V" } : MethodName) ({ cls := "BlindMint$Proposal", name := "open", desc := "()V" } : MethodName)) ∈ bm_big := bm_inS (List.mem_of_getElem? (i := 3) rfl) rfl
theorem bs_4 : (Cond.selects "BlindMint$Proposal" ({ cls := "BlindMint$Proposal", name := "sortParts", desc := "()V" } : MethodName) ({ cls := "BlindMint$Proposal", name := "sortParts", desc := "()V" } : MethodName)) ∈ bm_big := bm_inS (List.mem_of_getElem? (i := 4) rfl) rfl
theorem bs_5 : (Cond.selects "BlindMint$Proposal" ({ cls := "BlindMint$Proposal", name := "insertPart", desc := "(LBlindMint$Candidate;I)V" } : MethodName) ({ cls := "BlindMint$Proposal", name := "insertPart", desc := "(LBlindMint$Candidate;I)V" } : MethodName)) ∈ bm_big := bm_inS (List.mem_of_getElem? (i := 5) rfl) rfl
theorem bs_6 : (Cond.selects "BlindMint" ({ cls := "BlindMint", name := "makeCoin", desc := "(IJ)LBlindMint$Coin;" } : MethodName) ({ cls := "BlindMint", name := "makeCoin", desc := "(IJ)LBlindMint$Coin;" } : MethodName)) ∈ bm_big := bm_inS (List.mem_of_getElem? (i := 6) rfl) rfl
theorem bs_7 : (Cond.selects "BlindMint$Denomination" ({ cls := "BlindMint$Denomination", name := "join", desc := "(JJ)J" } : MethodName) ({ cls := "BlindMint$Denomination", name := "join", desc := "(JJ)J" } : MethodName)) ∈ bm_big := bm_inS (List.mem_of_getElem? (i := 7) rfl) rfl
theorem bs_8 : (Cond.selects "BlindMint" ({ cls := "BlindMint", name := "findCoin", desc := "(II)LBlindMint$Coin;" } : MethodName) ({ cls := "BlindMint", name := "findCoin", desc := "(II)LBlindMint$Coin;" } : MethodName)) ∈ bm_big := bm_inS (List.mem_of_getElem? (i := 8) rfl) rfl
theorem bs_9 : (Cond.selects "BlindMint" ({ cls := "BlindMint", name := "findCredit", desc := "(J)LBlindMint$Credit;" } : MethodName) ({ cls := "BlindMint", name := "findCredit", desc := "(J)LBlindMint$Credit;" } : MethodName)) ∈ bm_big := bm_inS (List.mem_of_getElem? (i := 9) rfl) rfl
theorem bs_10 : (Cond.selects "BlindMintModel" ({ cls := "BlindMintModel", name := "fail", desc := "(I)I" } : MethodName) ({ cls := "BlindMintModel", name := "fail", desc := "(I)I" } : MethodName)) ∈ bm_big := bm_inS (List.mem_of_getElem? (i := 10) rfl) rfl
theorem bs_11 : (Cond.selects "BlindMintModel" ({ cls := "BlindMintModel", name := "candidates", desc := "(IJI)V" } : MethodName) ({ cls := "BlindMintModel", name := "candidates", desc := "(IJI)V" } : MethodName)) ∈ bm_big := bm_inS (List.mem_of_getElem? (i := 11) rfl) rfl
theorem bs_12 : (Cond.selects "BlindMintModel" ({ cls := "BlindMintModel", name := "open", desc := "(I)I" } : MethodName) ({ cls := "BlindMintModel", name := "open", desc := "(I)I" } : MethodName)) ∈ bm_big := bm_inS (List.mem_of_getElem? (i := 12) rfl) rfl
theorem bs_13 : (Cond.selects "BlindMintModel" ({ cls := "BlindMintModel", name := "least", desc := "()I" } : MethodName) ({ cls := "BlindMintModel", name := "least", desc := "()I" } : MethodName)) ∈ bm_big := bm_inS (List.mem_of_getElem? (i := 13) rfl) rfl
theorem bs_14 : (Cond.selects "BlindMintModel" ({ cls := "BlindMintModel", name := "numberOf", desc := "(J)J" } : MethodName) ({ cls := "BlindMintModel", name := "numberOf", desc := "(J)J" } : MethodName)) ∈ bm_big := bm_inS (List.mem_of_getElem? (i := 14) rfl) rfl
theorem bs_15 : (Cond.selects "BlindMintModel" ({ cls := "BlindMintModel", name := "noCoin", desc := "(II)Z" } : MethodName) ({ cls := "BlindMintModel", name := "noCoin", desc := "(II)Z" } : MethodName)) ∈ bm_big := bm_inS (List.mem_of_getElem? (i := 15) rfl) rfl
theorem bs_16 : (Cond.selects "BlindMintModel" ({ cls := "BlindMintModel", name := "noNumber", desc := "(II)Z" } : MethodName) ({ cls := "BlindMintModel", name := "noNumber", desc := "(II)Z" } : MethodName)) ∈ bm_big := bm_inS (List.mem_of_getElem? (i := 16) rfl) rfl
theorem bs_17 : (Cond.selects "BlindMintModel" ({ cls := "BlindMintModel", name := "isGood", desc := "(I)Z" } : MethodName) ({ cls := "BlindMintModel", name := "isGood", desc := "(I)Z" } : MethodName)) ∈ bm_big := bm_inS (List.mem_of_getElem? (i := 17) rfl) rfl
theorem bs_18 : (Cond.selects "BlindMintModel" ({ cls := "BlindMintModel", name := "choiceOf", desc := "(I)J" } : MethodName) ({ cls := "BlindMintModel", name := "choiceOf", desc := "(I)J" } : MethodName)) ∈ bm_big := bm_inS (List.mem_of_getElem? (i := 18) rfl) rfl
theorem bs_19 : (Cond.selects "BlindMintModel" ({ cls := "BlindMintModel", name := "noted", desc := "(J)I" } : MethodName) ({ cls := "BlindMintModel", name := "noted", desc := "(J)I" } : MethodName)) ∈ bm_big := bm_inS (List.mem_of_getElem? (i := 19) rfl) rfl
theorem bs_20 : (Cond.selects "BlindMintModel" ({ cls := "BlindMintModel", name := "trace", desc := "(II)V" } : MethodName) ({ cls := "BlindMintModel", name := "trace", desc := "(II)V" } : MethodName)) ∈ bm_big := bm_inS (List.mem_of_getElem? (i := 20) rfl) rfl
end
section
/-! the classes' fields -/
def bt_A : u_T := fun k => match k with
  | 0 => ("BlindMint$Account", "balance", "I", false)
  | 1 => ("BlindMint$Account", "wallet", "[LBlindMint$Coin;", true)
  | _ => ("BlindMint$Account", "coinCount", "I", false)
def by_A : Nat → FieldType := fun k => match k with
  | 0 => .int
  | 1 => .array (.object "BlindMint$Coin")
  | _ => .int
theorem bn_A : ∀ a, a < 3 → ∀ b, b < 3 → a ≠ b → (bt_A a).2.1 ≠ (bt_A b).2.1 := by decide +kernel
theorem bo_A : ∀ k, k < 3 → parseFieldDescriptor (bt_A k).2.2.1 = some (by_A k) := by decide +kernel
theorem bu_A : ∀ w ∈ u_ws "BlindMint$Account" bt_A 3, w ∈ bm_big := by
  show ∀ w ∈ [(Cond.lays "BlindMint$Account" "BlindMint$Account" "balance" "I"), (Cond.laysFinal "BlindMint$Account" "BlindMint$Account" "wallet" "[LBlindMint$Coin;"), (Cond.lays "BlindMint$Account" "BlindMint$Account" "coinCount" "I")], w ∈ bm_big
  exact List.forall_mem_cons.mpr ⟨bw_101, List.forall_mem_cons.mpr ⟨bw_103, List.forall_mem_cons.mpr ⟨bw_105, fun _ h => absurd h List.not_mem_nil⟩⟩⟩
def bt_C : u_T := fun k => match k with
  | 0 => ("BlindMint$Candidate", "a", "J", false)
  | 1 => ("BlindMint$Candidate", "c", "J", false)
  | 2 => ("BlindMint$Candidate", "e", "J", false)
  | 3 => ("BlindMint$Candidate", "b", "J", false)
  | 4 => ("BlindMint$Candidate", "x", "J", false)
  | 5 => ("BlindMint$Candidate", "y", "J", false)
  | _ => ("BlindMint$Candidate", "pairHash", "J", false)
def by_C : Nat → FieldType := fun k => match k with
  | 0 => .long
  | 1 => .long
  | 2 => .long
  | 3 => .long
  | 4 => .long
  | 5 => .long
  | _ => .long
theorem bn_C : ∀ a, a < 7 → ∀ b, b < 7 → a ≠ b → (bt_C a).2.1 ≠ (bt_C b).2.1 := by decide +kernel
theorem bo_C : ∀ k, k < 7 → parseFieldDescriptor (bt_C k).2.2.1 = some (by_C k) := by decide +kernel
theorem bu_C : ∀ w ∈ u_ws "BlindMint$Candidate" bt_C 7, w ∈ bm_big := by
  show ∀ w ∈ [(Cond.lays "BlindMint$Candidate" "BlindMint$Candidate" "a" "J"), (Cond.lays "BlindMint$Candidate" "BlindMint$Candidate" "c" "J"), (Cond.lays "BlindMint$Candidate" "BlindMint$Candidate" "e" "J"), (Cond.lays "BlindMint$Candidate" "BlindMint$Candidate" "b" "J"), (Cond.lays "BlindMint$Candidate" "BlindMint$Candidate" "x" "J"), (Cond.lays "BlindMint$Candidate" "BlindMint$Candidate" "y" "J"), (Cond.lays "BlindMint$Candidate" "BlindMint$Candidate" "pairHash" "J")], w ∈ bm_big
  exact List.forall_mem_cons.mpr ⟨bw_56, List.forall_mem_cons.mpr ⟨bw_58, List.forall_mem_cons.mpr ⟨bw_60, List.forall_mem_cons.mpr ⟨bw_62, List.forall_mem_cons.mpr ⟨bw_64, List.forall_mem_cons.mpr ⟨bw_66, List.forall_mem_cons.mpr ⟨bw_68, fun _ h => absurd h List.not_mem_nil⟩⟩⟩⟩⟩⟩⟩
def bt_O : u_T := fun k => match k with
  | 0 => ("BlindMint$Coin", "denomination", "I", true)
  | 1 => ("BlindMint$Coin", "number", "J", true)
  | 2 => ("BlindMint$Coin", "signature", "J", true)
  | 3 => ("BlindMint$Coin", "spent", "Z", false)
  | 4 => ("BlindMint$Coin", "toldForOne", "[J", true)
  | _ => ("BlindMint$Coin", "toldForZero", "[J", true)
def by_O : Nat → FieldType := fun k => match k with
  | 0 => .int
  | 1 => .long
  | 2 => .long
  | 3 => .boolean
  | 4 => .array (.long)
  | _ => .array (.long)
theorem bn_O : ∀ a, a < 6 → ∀ b, b < 6 → a ≠ b → (bt_O a).2.1 ≠ (bt_O b).2.1 := by decide +kernel
theorem bo_O : ∀ k, k < 6 → parseFieldDescriptor (bt_O k).2.2.1 = some (by_O k) := by decide +kernel
theorem bu_O : ∀ w ∈ u_ws "BlindMint$Coin" bt_O 6, w ∈ bm_big := by
  show ∀ w ∈ [(Cond.laysFinal "BlindMint$Coin" "BlindMint$Coin" "denomination" "I"), (Cond.laysFinal "BlindMint$Coin" "BlindMint$Coin" "number" "J"), (Cond.laysFinal "BlindMint$Coin" "BlindMint$Coin" "signature" "J"), (Cond.lays "BlindMint$Coin" "BlindMint$Coin" "spent" "Z"), (Cond.laysFinal "BlindMint$Coin" "BlindMint$Coin" "toldForOne" "[J"), (Cond.laysFinal "BlindMint$Coin" "BlindMint$Coin" "toldForZero" "[J")], w ∈ bm_big
  exact List.forall_mem_cons.mpr ⟨bw_427, List.forall_mem_cons.mpr ⟨bw_429, List.forall_mem_cons.mpr ⟨bw_431, List.forall_mem_cons.mpr ⟨bw_433, List.forall_mem_cons.mpr ⟨bw_435, List.forall_mem_cons.mpr ⟨bw_437, fun _ h => absurd h List.not_mem_nil⟩⟩⟩⟩⟩⟩
def bt_R : u_T := fun k => match k with
  | 0 => ("BlindMint$Credit", "denomination", "J", true)
  | 1 => ("BlindMint$Credit", "pairHashes", "[J", true)
  | 2 => ("BlindMint$Credit", "challenge", "J", true)
  | 3 => ("BlindMint$Credit", "halves", "[J", true)
  | _ => ("BlindMint$Credit", "before", "LBlindMint$Credit;", true)
def by_R : Nat → FieldType := fun k => match k with
  | 0 => .long
  | 1 => .array (.long)
  | 2 => .long
  | 3 => .array (.long)
  | _ => .object "BlindMint$Credit"
theorem bn_R : ∀ a, a < 5 → ∀ b, b < 5 → a ≠ b → (bt_R a).2.1 ≠ (bt_R b).2.1 := by decide +kernel
theorem bo_R : ∀ k, k < 5 → parseFieldDescriptor (bt_R k).2.2.1 = some (by_R k) := by decide +kernel
theorem bu_R : ∀ w ∈ u_ws "BlindMint$Credit" bt_R 5, w ∈ bm_big := by
  show ∀ w ∈ [(Cond.laysFinal "BlindMint$Credit" "BlindMint$Credit" "denomination" "J"), (Cond.laysFinal "BlindMint$Credit" "BlindMint$Credit" "pairHashes" "[J"), (Cond.laysFinal "BlindMint$Credit" "BlindMint$Credit" "challenge" "J"), (Cond.laysFinal "BlindMint$Credit" "BlindMint$Credit" "halves" "[J"), (Cond.laysFinal "BlindMint$Credit" "BlindMint$Credit" "before" "LBlindMint$Credit;")], w ∈ bm_big
  exact List.forall_mem_cons.mpr ⟨bw_563, List.forall_mem_cons.mpr ⟨bw_565, List.forall_mem_cons.mpr ⟨bw_567, List.forall_mem_cons.mpr ⟨bw_569, List.forall_mem_cons.mpr ⟨bw_571, fun _ h => absurd h List.not_mem_nil⟩⟩⟩⟩⟩
def bt_P : u_T := fun k => match k with
  | _ => ("BlindMint$Payment", "numbers", "[J", true)
def by_P : Nat → FieldType := fun k => match k with
  | _ => .array (.long)
theorem bn_P : ∀ a, a < 1 → ∀ b, b < 1 → a ≠ b → (bt_P a).2.1 ≠ (bt_P b).2.1 := by decide +kernel
theorem bo_P : ∀ k, k < 1 → parseFieldDescriptor (bt_P k).2.2.1 = some (by_P k) := by decide +kernel
theorem bu_P : ∀ w ∈ u_ws "BlindMint$Payment" bt_P 1, w ∈ bm_big := by
  show ∀ w ∈ [(Cond.laysFinal "BlindMint$Payment" "BlindMint$Payment" "numbers" "[J")], w ∈ bm_big
  exact List.forall_mem_cons.mpr ⟨bw_492, fun _ h => absurd h List.not_mem_nil⟩
def bt_Q : u_T := fun k => match k with
  | 0 => ("BlindMint$Proposal", "candidates", "[LBlindMint$Candidate;", true)
  | 1 => ("BlindMint$Proposal", "parts", "[LBlindMint$Candidate;", true)
  | 2 => ("BlindMint$Proposal", "firstOpened", "I", false)
  | _ => ("BlindMint$Proposal", "secondOpened", "I", false)
def by_Q : Nat → FieldType := fun k => match k with
  | 0 => .array (.object "BlindMint$Candidate")
  | 1 => .array (.object "BlindMint$Candidate")
  | 2 => .int
  | _ => .int
theorem bn_Q : ∀ a, a < 4 → ∀ b, b < 4 → a ≠ b → (bt_Q a).2.1 ≠ (bt_Q b).2.1 := by decide +kernel
theorem bo_Q : ∀ k, k < 4 → parseFieldDescriptor (bt_Q k).2.2.1 = some (by_Q k) := by decide +kernel
theorem bu_Q : ∀ w ∈ u_ws "BlindMint$Proposal" bt_Q 4, w ∈ bm_big := by
  show ∀ w ∈ [(Cond.laysFinal "BlindMint$Proposal" "BlindMint$Proposal" "candidates" "[LBlindMint$Candidate;"), (Cond.laysFinal "BlindMint$Proposal" "BlindMint$Proposal" "parts" "[LBlindMint$Candidate;"), (Cond.lays "BlindMint$Proposal" "BlindMint$Proposal" "firstOpened" "I"), (Cond.lays "BlindMint$Proposal" "BlindMint$Proposal" "secondOpened" "I")], w ∈ bm_big
  exact List.forall_mem_cons.mpr ⟨bw_76, List.forall_mem_cons.mpr ⟨bw_78, List.forall_mem_cons.mpr ⟨bw_80, List.forall_mem_cons.mpr ⟨bw_82, fun _ h => absurd h List.not_mem_nil⟩⟩⟩⟩
def bt_B : u_T := fun k => match k with
  | 0 => ("BlindMint", "accounts", "[LBlindMint$Account;", true)
  | 1 => ("BlindMint", "proposal", "LBlindMint$Proposal;", true)
  | 2 => ("BlindMint", "payments", "[LBlindMint$Payment;", true)
  | 3 => ("BlindMint", "paymentCount", "I", false)
  | 4 => ("BlindMint", "pairHashes", "[J", true)
  | 5 => ("BlindMint", "lastCredit", "LBlindMint$Credit;", false)
  | 6 => ("BlindMint", "lastTraced", "I", false)
  | 7 => ("BlindMint", "lastBlinded", "J", false)
  | 8 => ("BlindMint", "withdrawnCoins", "I", false)
  | 9 => ("BlindMint", "depositedCoins", "I", false)
  | 10 => ("BlindMint", "foundCheats", "I", false)
  | _ => ("BlindMint", "repeatedDeposits", "I", false)
def by_B : Nat → FieldType := fun k => match k with
  | 0 => .array (.object "BlindMint$Account")
  | 1 => .object "BlindMint$Proposal"
  | 2 => .array (.object "BlindMint$Payment")
  | 3 => .int
  | 4 => .array (.long)
  | 5 => .object "BlindMint$Credit"
  | 6 => .int
  | 7 => .long
  | 8 => .int
  | 9 => .int
  | 10 => .int
  | _ => .int
theorem bn_B : ∀ a, a < 12 → ∀ b, b < 12 → a ≠ b → (bt_B a).2.1 ≠ (bt_B b).2.1 := by decide +kernel
theorem bo_B : ∀ k, k < 12 → parseFieldDescriptor (bt_B k).2.2.1 = some (by_B k) := by decide +kernel
theorem bu_B : ∀ w ∈ u_ws "BlindMint" bt_B 12, w ∈ bm_big := by
  show ∀ w ∈ [(Cond.laysFinal "BlindMint" "BlindMint" "accounts" "[LBlindMint$Account;"), (Cond.laysFinal "BlindMint" "BlindMint" "proposal" "LBlindMint$Proposal;"), (Cond.laysFinal "BlindMint" "BlindMint" "payments" "[LBlindMint$Payment;"), (Cond.lays "BlindMint" "BlindMint" "paymentCount" "I"), (Cond.laysFinal "BlindMint" "BlindMint" "pairHashes" "[J"), (Cond.lays "BlindMint" "BlindMint" "lastCredit" "LBlindMint$Credit;"), (Cond.lays "BlindMint" "BlindMint" "lastTraced" "I"), (Cond.lays "BlindMint" "BlindMint" "lastBlinded" "J"), (Cond.lays "BlindMint" "BlindMint" "withdrawnCoins" "I"), (Cond.lays "BlindMint" "BlindMint" "depositedCoins" "I"), (Cond.lays "BlindMint" "BlindMint" "foundCheats" "I"), (Cond.lays "BlindMint" "BlindMint" "repeatedDeposits" "I")], w ∈ bm_big
  exact List.forall_mem_cons.mpr ⟨bw_121, List.forall_mem_cons.mpr ⟨bw_123, List.forall_mem_cons.mpr ⟨bw_125, List.forall_mem_cons.mpr ⟨bw_127, List.forall_mem_cons.mpr ⟨bw_129, List.forall_mem_cons.mpr ⟨bw_131, List.forall_mem_cons.mpr ⟨bw_133, List.forall_mem_cons.mpr ⟨bw_135, List.forall_mem_cons.mpr ⟨bw_137, List.forall_mem_cons.mpr ⟨bw_139, List.forall_mem_cons.mpr ⟨bw_141, List.forall_mem_cons.mpr ⟨bw_143, fun _ h => absurd h List.not_mem_nil⟩⟩⟩⟩⟩⟩⟩⟩⟩⟩⟩⟩
def bt_M : u_T := fun k => match k with
  | 0 => ("BlindMintModel", "thrown", "I", false)
  | 1 => ("BlindMintModel", "money", "[I", true)
  | 2 => ("BlindMintModel", "counts", "[I", true)
  | 3 => ("BlindMintModel", "traced", "I", false)
  | 4 => ("BlindMintModel", "blinded", "J", false)
  | 5 => ("BlindMintModel", "coins", "[I", true)
  | 6 => ("BlindMintModel", "sort", "[I", true)
  | 7 => ("BlindMintModel", "numbers", "[J", true)
  | 8 => ("BlindMintModel", "signs", "[J", true)
  | 9 => ("BlindMintModel", "spent", "[Z", true)
  | 10 => ("BlindMintModel", "parts", "[J", true)
  | 11 => ("BlindMintModel", "payments", "I", false)
  | 12 => ("BlindMintModel", "rows", "[J", true)
  | 13 => ("BlindMintModel", "deposits", "I", false)
  | 14 => ("BlindMintModel", "taken", "[J", true)
  | 15 => ("BlindMintModel", "a", "[J", true)
  | 16 => ("BlindMintModel", "b", "[J", true)
  | 17 => ("BlindMintModel", "c", "[J", true)
  | 18 => ("BlindMintModel", "e", "[J", true)
  | 19 => ("BlindMintModel", "pair", "[J", true)
  | 20 => ("BlindMintModel", "left", "[Z", true)
  | _ => ("BlindMintModel", "hashes", "[J", true)
def by_M : Nat → FieldType := fun k => match k with
  | 0 => .int
  | 1 => .array (.int)
  | 2 => .array (.int)
  | 3 => .int
  | 4 => .long
  | 5 => .array (.int)
  | 6 => .array (.int)
  | 7 => .array (.long)
  | 8 => .array (.long)
  | 9 => .array (.boolean)
  | 10 => .array (.long)
  | 11 => .int
  | 12 => .array (.long)
  | 13 => .int
  | 14 => .array (.long)
  | 15 => .array (.long)
  | 16 => .array (.long)
  | 17 => .array (.long)
  | 18 => .array (.long)
  | 19 => .array (.long)
  | 20 => .array (.boolean)
  | _ => .array (.long)
theorem bn_M : ∀ a, a < 22 → ∀ b, b < 22 → a ≠ b → (bt_M a).2.1 ≠ (bt_M b).2.1 := by decide +kernel
theorem bo_M : ∀ k, k < 22 → parseFieldDescriptor (bt_M k).2.2.1 = some (by_M k) := by decide +kernel
theorem bu_M : ∀ w ∈ u_ws "BlindMintModel" bt_M 22, w ∈ bm_big := by
  show ∀ w ∈ [(Cond.lays "BlindMintModel" "BlindMintModel" "thrown" "I"), (Cond.laysFinal "BlindMintModel" "BlindMintModel" "money" "[I"), (Cond.laysFinal "BlindMintModel" "BlindMintModel" "counts" "[I"), (Cond.lays "BlindMintModel" "BlindMintModel" "traced" "I"), (Cond.lays "BlindMintModel" "BlindMintModel" "blinded" "J"), (Cond.laysFinal "BlindMintModel" "BlindMintModel" "coins" "[I"), (Cond.laysFinal "BlindMintModel" "BlindMintModel" "sort" "[I"), (Cond.laysFinal "BlindMintModel" "BlindMintModel" "numbers" "[J"), (Cond.laysFinal "BlindMintModel" "BlindMintModel" "signs" "[J"), (Cond.laysFinal "BlindMintModel" "BlindMintModel" "spent" "[Z"), (Cond.laysFinal "BlindMintModel" "BlindMintModel" "parts" "[J"), (Cond.lays "BlindMintModel" "BlindMintModel" "payments" "I"), (Cond.laysFinal "BlindMintModel" "BlindMintModel" "rows" "[J"), (Cond.lays "BlindMintModel" "BlindMintModel" "deposits" "I"), (Cond.laysFinal "BlindMintModel" "BlindMintModel" "taken" "[J"), (Cond.laysFinal "BlindMintModel" "BlindMintModel" "a" "[J"), (Cond.laysFinal "BlindMintModel" "BlindMintModel" "b" "[J"), (Cond.laysFinal "BlindMintModel" "BlindMintModel" "c" "[J"), (Cond.laysFinal "BlindMintModel" "BlindMintModel" "e" "[J"), (Cond.laysFinal "BlindMintModel" "BlindMintModel" "pair" "[J"), (Cond.laysFinal "BlindMintModel" "BlindMintModel" "left" "[Z"), (Cond.laysFinal "BlindMintModel" "BlindMintModel" "hashes" "[J")], w ∈ bm_big
  exact List.forall_mem_cons.mpr ⟨bw_624, List.forall_mem_cons.mpr ⟨bw_626, List.forall_mem_cons.mpr ⟨bw_628, List.forall_mem_cons.mpr ⟨bw_630, List.forall_mem_cons.mpr ⟨bw_632, List.forall_mem_cons.mpr ⟨bw_634, List.forall_mem_cons.mpr ⟨bw_636, List.forall_mem_cons.mpr ⟨bw_638, List.forall_mem_cons.mpr ⟨bw_640, List.forall_mem_cons.mpr ⟨bw_642, List.forall_mem_cons.mpr ⟨bw_644, List.forall_mem_cons.mpr ⟨bw_646, List.forall_mem_cons.mpr ⟨bw_648, List.forall_mem_cons.mpr ⟨bw_650, List.forall_mem_cons.mpr ⟨bw_652, List.forall_mem_cons.mpr ⟨bw_654, List.forall_mem_cons.mpr ⟨bw_656, List.forall_mem_cons.mpr ⟨bw_658, List.forall_mem_cons.mpr ⟨bw_660, List.forall_mem_cons.mpr ⟨bw_662, List.forall_mem_cons.mpr ⟨bw_664, List.forall_mem_cons.mpr ⟨bw_666, fun _ h => absurd h List.not_mem_nil⟩⟩⟩⟩⟩⟩⟩⟩⟩⟩⟩⟩⟩⟩⟩⟩⟩⟩⟩⟩⟩⟩
abbrev bm_cl : List vw_C := [("BlindMint$Account", bt_A, 3), ("BlindMint$Candidate", bt_C, 7), ("BlindMint$Coin", bt_O, 6), ("BlindMint$Credit", bt_R, 5), ("BlindMint$Payment", bt_P, 1), ("BlindMint$Proposal", bt_Q, 4), ("BlindMint", bt_B, 12), ("BlindMintModel", bt_M, 22)]
/-- a method's words: its code, and all of the tables' -/
abbrev bm_ws (y : MethodName) (c : ByteArray) (n : Nat) (r : Option FieldType) : List Cond := Cond.code y c n r :: bm_big
theorem bm_goodW {y : MethodName} {c : ByteArray} {n : Nat} {r : Option FieldType} (h : Cond.code y c n r ∈ bm_big) : GoodIn bm_big (bm_ws y c n r) := fun w hw => (List.mem_cons.mp hw).elim (fun e => by subst e; exact ⟨h, bm_bigG h⟩) (fun h1 => ⟨h1, bm_bigG h1⟩)
theorem bm_goodS {own : String} {idx : Nat} {y : MethodName} {c : ByteArray} {n : Nat} {r : Option FieldType} (h1 : Cond.methodLink own idx y ∈ bm_big) (h2 : Cond.static y ∈ bm_big) (h3 : Cond.initialized y.cls ∈ bm_big) (h : Cond.code y c n r ∈ bm_big) : GoodIn bm_big (va_wsS own idx y (bm_ws y c n r)) := by
  intro w hw
  rcases List.mem_append.mp hw with hw | hw
  · have hm : w ∈ bm_big := by
      rcases List.mem_cons.mp hw with rfl | hw
      · exact h1
      rcases List.mem_cons.mp hw with rfl | hw
      · exact h2
      rcases List.mem_cons.mp hw with rfl | hw
      · exact h3
      cases hw
    exact ⟨hm, bm_bigG hm⟩
  · exact bm_goodW h w hw
theorem bm_goodV {own C : String} {idx : Nat} {y : MethodName} {c : ByteArray} {n : Nat} {r : Option FieldType} (h1 : Cond.methodLink own idx y ∈ bm_big) (h2 : Cond.instanceMethod y ∈ bm_big) (h3 : Cond.selects C y y ∈ bm_big) (h4 : Cond.initialized C ∈ bm_big) (h : Cond.code y c n r ∈ bm_big) : GoodIn bm_big (wsV own idx C y (bm_ws y c n r)) := by
  intro w hw
  rcases List.mem_append.mp hw with hw | hw
  · have hm : w ∈ bm_big := by
      rcases List.mem_cons.mp hw with rfl | hw
      · exact h1
      rcases List.mem_cons.mp hw with rfl | hw
      · exact h2
      rcases List.mem_cons.mp hw with rfl | hw
      · exact h3
      rcases List.mem_cons.mp hw with rfl | hw
      · exact h4
      cases hw
    exact ⟨hm, bm_bigG hm⟩
  · exact bm_goodW h w hw
end
section
/-! the world as a map from addresses to cells: what is held of the heap, and rows that read and write it -/
abbrev bm_Map : Type := Nat → Option va_E
def bm_up (M : bm_Map) (a : Nat) (e : va_E) : bm_Map := fun b => if b = a then some e else M b
theorem bm_up_self (M : bm_Map) (a : Nat) (e : va_E) : bm_up M a e a = some e := by simp [bm_up]
theorem bm_up_ne {M : bm_Map} {a b : Nat} {e : va_E} (h : b ≠ a) : bm_up M a e b = M b := by simp [bm_up, h]
def bm_A (base : Nat) : Nat → Prop := fun q => base ≤ q
/-- the heap holds the map; all its cells lie from base on -/
def bm_M (D : va_G) (base : Nat) (M : bm_Map) (H : Heap) : Prop := ∃ ws : va_W, va_P D bm_cl ws H ∧ va_D (bm_A base) ws ∧ ∀ (a : Nat) (e : va_E), M a = some e ↔ (a, e) ∈ ws
theorem bm_Mset {A : Nat → Prop} {M : bm_Map} {ws : va_W} {q0 a : Nat} {e0 e : va_E} (hw : ∀ (a : Nat) (e : va_E), M a = some e ↔ (a, e) ∈ ws) (hD : va_D A ws) (hq : ws[q0]? = some (a, e0)) : ∀ (b : Nat) (x : va_E), bm_up M a e b = some x ↔ (b, x) ∈ ws.set q0 (a, e) := by
  intro b x
  have hl : q0 < ws.length := (List.getElem?_eq_some_iff.mp hq).1
  constructor
  · intro h
    by_cases hb : b = a
    · subst hb
      rw [bm_up_self] at h
      cases h
      exact List.mem_of_getElem? (List.getElem?_set_self hl)
    · rw [bm_up_ne hb] at h
      obtain ⟨k, hk⟩ := List.getElem?_of_mem ((hw b x).mp h)
      have hkq : k ≠ q0 := fun z => by
        subst z
        rw [hq] at hk
        cases hk
        exact hb rfl
      exact List.mem_of_getElem? (i := k) (by rw [List.getElem?_set_ne (Ne.symm hkq)]; exact hk)
  · intro h
    obtain ⟨k, hk⟩ := List.getElem?_of_mem h
    by_cases hkq : k = q0
    · subst hkq
      rw [List.getElem?_set_self hl] at hk
      cases hk
      exact bm_up_self _ _ _
    · rw [List.getElem?_set_ne (Ne.symm hkq)] at hk
      have hb : b ≠ a := fun z => hkq (hD.1 k q0 (b, x) (a, e0) hk hq z)
      rw [bm_up_ne hb]
      exact (hw b x).mpr (List.mem_of_getElem? hk)
theorem bm_Mpush {A : Nat → Prop} {M : bm_Map} {ws : va_W} {q : Nat} {e : va_E} (hw : ∀ (a : Nat) (e : va_E), M a = some e ↔ (a, e) ∈ ws) (hD : va_D A (ws ++ [(q, e)])) : ∀ (b : Nat) (x : va_E), bm_up M q e b = some x ↔ (b, x) ∈ ws ++ [(q, e)] := by
  intro b x
  constructor
  · intro h
    by_cases hb : b = q
    · subst hb
      rw [bm_up_self] at h
      cases h
      exact List.mem_append_right _ (List.mem_singleton.mpr rfl)
    · rw [bm_up_ne hb] at h
      exact List.mem_append_left _ ((hw b x).mp h)
  · intro h
    rcases List.mem_append.mp h with h1 | h1
    · have hb : b ≠ q := fun z => by
        obtain ⟨k, hk⟩ := List.getElem?_of_mem h1
        have hl := (List.getElem?_eq_some_iff.mp hk).1
        have e1 : (ws ++ [(q, e)])[k]? = some (b, x) := by rw [List.getElem?_append_left hl]; exact hk
        have e2 : (ws ++ [(q, e)])[ws.length]? = some (q, e) := by rw [List.getElem?_append_right (Nat.le_refl _), Nat.sub_self]; rfl
        have := hD.1 k ws.length (b, x) (q, e) e1 e2 z
        omega
      rw [bm_up_ne hb]
      exact (hw b x).mpr h1
    · cases List.mem_singleton.mp h1
      exact bm_up_self _ _ _
theorem bm_M.at {D : va_G} {base : Nat} {M : bm_Map} {H : Heap} {a : Nat} {e : va_E} (h : bm_M D base M H) (he : M a = some e) : va_at D bm_cl (a, e) H ∧ base ≤ a := by
  obtain ⟨ws, hP, hD, hw⟩ := h
  obtain ⟨k, hk⟩ := List.getElem?_of_mem ((hw a e).mp he)
  exact ⟨hP k _ hk, hD.2 k _ hk⟩
theorem bm_M.lt {D : va_G} {base : Nat} {M : bm_Map} {H : Heap} {a : Nat} {e : va_E} (h : bm_M D base M H) (he : M a = some e) : a < H.size := (h.at he).1.lt
theorem bm_M.new {D : va_G} {base : Nat} {M : bm_Map} {H : Heap} (h : bm_M D base M H) {a : Nat} (ha : H.size ≤ a) : M a = none := by
  cases he : M a with
  | none => rfl
  | some e => have := h.lt he; omega
/-- the array classes -/
def bm_tys (ct : Nat → ClassId) : List (ClassId × FieldType) := [(ct 0, .int), (ct 1, .long), (ct 2, .boolean), (ct 3, .object "BlindMint$Account"), (ct 4, .object "BlindMint$Payment"), (ct 5, .object "BlindMint$Candidate"), (ct 6, .object "BlindMint$Coin")]
theorem bm_M.set {D : va_G} {base : Nat} {M : bm_Map} {H H1 : Heap} {a : Nat} {e0 e : va_E} (h : bm_M D base M H) (he : M a = some e0) (hat : va_at D bm_cl (a, e) H1) (oq : ∀ q : Nat, q ≠ a → H1[q]? = H[q]?) : bm_M D base (bm_up M a e) H1 := by
  obtain ⟨ws, hP, hD, hw⟩ := h
  obtain ⟨q0, hq⟩ := List.getElem?_of_mem ((hw a _).mp he)
  exact ⟨ws.set q0 (a, e), hP.set hD hq hat oq, hD.set hq, bm_Mset hw hD hq⟩
theorem bm_M.push {D : va_G} {base : Nat} {M : bm_Map} {H H1 : Heap} {e : va_E} (h : bm_M D base M H) (hB : base ≤ H.size) (hat : va_at D bm_cl (H.size, e) H1) (oq : ∀ q : Nat, q < H.size → H1[q]? = H[q]?) : bm_M D base (bm_up M H.size e) H1 := by
  obtain ⟨ws, hP, hD, hw⟩ := h
  have hD1 : va_D (bm_A base) (ws ++ [(H.size, e)]) := hD.push hP rfl hB
  refine ⟨ws ++ [(H.size, e)], (hP.kept (fun k x hx => oq x.1 ((hP k x hx).lt))).app (fun k x hx => ?_), hD1, bm_Mpush hw hD1⟩
  have hz : k < 1 := (List.getElem?_eq_some_iff.mp hx).1
  rw [show k = 0 by omega] at hx
  cases hx
  exact hat
/-- the int i is the place k -/
def bm_ix (i : Int32) (k : Nat) : Prop := ¬ i < 0 ∧ i.toNatClampNeg = k
theorem bm_ix_in {i : Int32} {k n : Nat} (h : bm_ix i k) (hk : k < n) : vp_in i n := by
  obtain ⟨h0, rfl⟩ := h
  intro z
  rcases z with z | z
  · exact h0 z
  · omega
theorem bm_ix_nI {k : Nat} (h : k < 2 ^ 31) : bm_ix (nI k) k := ⟨nI_pos h, nI_clamp h⟩
theorem bm_ne_oo {M : bm_Map} {a b i j : Nat} {fs gs : List Value} (ha : M a = some (.inr (i, fs))) (hb : M b = some (.inr (j, gs))) (h : i ≠ j) : b ≠ a := fun z => by
  subst z
  rw [ha] at hb
  injection hb with hb
  injection hb with hb
  injection hb with hb
  exact h hb
theorem bm_ne_oa {M : bm_Map} {a b : Nat} {x : Nat × List Value} {y : ClassId × vp_A} (ha : M a = some (.inr x)) (hb : M b = some (.inl y)) : b ≠ a := fun z => by
  subst z
  rw [ha] at hb
  cases hb
theorem bm_ne_ao {M : bm_Map} {a b : Nat} {x : Nat × List Value} {y : ClassId × vp_A} (ha : M a = some (.inl y)) (hb : M b = some (.inr x)) : b ≠ a := fun z => by
  subst z
  rw [ha] at hb
  cases hb
theorem bm_ne_aa {M : bm_Map} {a b n k : Nat} {c d : ClassId} {x y : (Nat → Int32) ⊕ (Nat → Int64) ⊕ (Nat → UInt32) ⊕ (Nat → UInt64) ⊕ (Nat → Option Nat)} (ha : M a = some (.inl (c, n, x))) (hb : M b = some (.inl (d, k, y))) (h : n ≠ k) : b ≠ a := fun z => by
  subst z
  rw [ha] at hb
  injection hb with hb
  injection hb with hb
  injection hb with _ hb
  injection hb with hb
  exact h hb
end
section
section BMR
variable {p : Program} {l : Launch} {e : Env} {R : Room} {s : State} {m : MethodId} {args : Array Value} {below : List Frame} {meth : Method} {c : Code} {H : Heap} {locs : List Loc} {cells slots : Nat} {Q : State → Prop}
variable {cc : ByteArray} {pc : Nat} {ls : Array Slot} {rest : List Value} {D : va_G} {base : Nat} {a : Nat} {tys : List (ClassId × FieldType)} {M : bm_Map} {H0 : Heap}
theorem bm_get (hexec : p.tables.exec = Jvm.exec) (hb : c.code = cc) {own ref C : String} {T : u_T} {N ci index : Nat} {Ts : List Cond} (hts : ∀ w ∈ Ts, w.before args s = true) (hin : ∀ w ∈ u_ws C T N, w ∈ Ts) (hown : s.vm.findClass own = some m.cls) (hK : va_K D bm_cl tys s) (hM : bm_M D base M H) {fs : List Value} (he : M a = some (.inr (ci, fs))) (hc : bm_cl[ci]? = some (C, T, N)) (k : Nat) (hk : k < N) (hlink : (Cond.fieldLink own index ref (T k).2.1 (T k).2.2.1).before args s = true) (hsame : ∀ x, s.fieldFound? (T k).1 (T k).2.1 (T k).2.2.1 = some x → s.fieldFound? ref (T k).2.1 (T k).2.2.1 = some x) {v : Value} (hv : fs[k]? = some v) (hdg : decode cc pc = .ok (.getfield index, 3))
    (kk : W p l e R s m args below meth c H locs cells slots Q (F0 m (pc + 3) ls (v :: rest))) : W p l e R s m args below meth c H locs cells slots Q (F0 m pc ls (.ref a :: rest)) := by
  obtain ⟨ws, hP, hD, hw⟩ := hM
  obtain ⟨q0, hq⟩ := List.getElem?_of_mem ((hw a _).mp he)
  exact va_get hexec hb hts hin hown hK hP q0 hq hc k hk hlink hsame hv hdg kk
theorem bm_put (hexec : p.tables.exec = Jvm.exec) (hb : c.code = cc) {own ref C : String} {T : u_T} {N ci index : Nat} {Ts : List Cond} (hts : ∀ w ∈ Ts, w.before args s = true) (hin : ∀ w ∈ u_ws C T N, w ∈ Ts) (ty0 : Nat → FieldType) (hty : ∀ k, k < N → parseFieldDescriptor (T k).2.2.1 = some (ty0 k)) (hnm : ∀ a, a < N → ∀ b, b < N → a ≠ b → (T a).2.1 ≠ (T b).2.1) (hown : s.vm.findClass own = some m.cls) (hK : va_K D bm_cl tys s) (hM : bm_M D base M H) (hS0 : va_S (bm_A base) H0 H locs) {fs : List Value} (he : M a = some (.inr (ci, fs))) (hc : bm_cl[ci]? = some (C, T, N)) (k : Nat) (hk : k < N) (hlink : (Cond.fieldLink own index ref (T k).2.1 (T k).2.2.1).before args s = true) (hsame : ∀ x, s.fieldFound? (T k).1 (T k).2.1 (T k).2.2.1 = some x → s.fieldFound? ref (T k).2.1 (T k).2.2.1 = some x) (hfin : (T k).2.2.2 = false) {ty : FieldType} {v : Value} (hd : parseFieldDescriptor (T k).2.2.1 = some ty) (hn : narrow ty v = v) (hfit : fits ty v = true) (hl : k < fs.length)
    (hdg : decode cc pc = .ok (.putfield index, 3)) (kk : ∀ (H1 : Heap) (locs1 : List Loc), H1.size = H.size → bm_M D base (bm_up M a (.inr (ci, fs.set k v))) H1 → va_S (bm_A base) H0 H1 locs1 → W p l e R s m args below meth c H1 locs1 cells slots Q (F0 m (pc + 3) ls rest)) : W p l e R s m args below meth c H locs cells slots Q (F0 m pc ls (v :: .ref a :: rest)) := by
  have hap := va_apart (own := own) hts hin ty0 hty hnm hK hc
  obtain ⟨⟨r, h1, cell, q1, q2, q3, q4⟩, hba⟩ := hM.at he
  have hr : r = (C, T, N) := Option.some.inj (h1.symm.trans hc)
  subst hr
  obtain ⟨hS, hfc, kC, hkC, hkind⟩ := hK.1 ci _ hc
  obtain ⟨cf, kf, fi, f, hi, hsl⟩ := hS k hk
  have hlay := hts _ (hin _ (u_in_lay hk))
  unfold u_lay at hlay
  rw [if_neg (by rw [hfin]; decide)] at hlay
  have hst := (u_facts hfc hkC (u_lays hts hin hk) hi).1
  have h6 := u_store hfc hkC hkind hlay hi hd hn hfit
  refine W.putK hexec hb (f := f) ⟨hown, hlink, ⟨_, _, _, hsame _ hi⟩, hst⟩ (by rw [q2]; exact h6) q1 q3 (by rw [hsl]; exact k2_hasslot (q4 k hk)) rfl rfl hdg fun H' e1 e2 e3 => ?_
  rw [hsl] at e1 ⊢
  exact kk H' _ e2 (hM.set he ⟨_, hc, t_OB.to (V := updV (vp_V fs) k v) ⟨_, e1, q2, q3, t_set q4 hap hk v⟩ (fun j _ => vp_updV_set hl v j)⟩ e3) (hS0.put e2 e3 hba)
theorem bm_putF (hexec : p.tables.exec = Jvm.exec) (hb : c.code = cc) {own ref C : String} {T : u_T} {N ci index : Nat} {Ts : List Cond} (hts : ∀ w ∈ Ts, w.before args s = true) (hin : ∀ w ∈ u_ws C T N, w ∈ Ts) (ty0 : Nat → FieldType) (hty : ∀ k, k < N → parseFieldDescriptor (T k).2.2.1 = some (ty0 k)) (hnm : ∀ a, a < N → ∀ b, b < N → a ≠ b → (T a).2.1 ≠ (T b).2.1) (hown : s.vm.findClass own = some m.cls) (hK : va_K D bm_cl tys s) (hM : bm_M D base M H) (hS0 : va_S (bm_A base) H0 H locs) {fs : List Value} (he : M a = some (.inr (ci, fs))) (hc : bm_cl[ci]? = some (C, T, N)) (k : Nat) (hk : k < N) (hlink : (Cond.fieldLink own index ref (T k).2.1 (T k).2.2.1).before args s = true) (hsame : ∀ x, s.fieldFound? (T k).1 (T k).2.1 (T k).2.2.1 = some x → s.fieldFound? ref (T k).2.1 (T k).2.2.1 = some x) (hfin : (T k).2.2.2 = true) (hin2 : meth.name = "<init>") (hdecl : (T k).1 = own) {ty : FieldType} {v : Value} (hd : parseFieldDescriptor (T k).2.2.1 = some ty) (hn : narrow ty v = v) (hfit : fits ty v = true) (hl : k < fs.length)
    (hdg : decode cc pc = .ok (.putfield index, 3)) (kk : ∀ (H1 : Heap) (locs1 : List Loc), H1.size = H.size → bm_M D base (bm_up M a (.inr (ci, fs.set k v))) H1 → va_S (bm_A base) H0 H1 locs1 → W p l e R s m args below meth c H1 locs1 cells slots Q (F0 m (pc + 3) ls rest)) : W p l e R s m args below meth c H locs cells slots Q (F0 m pc ls (v :: .ref a :: rest)) := by
  have hap := va_apart (own := own) hts hin ty0 hty hnm hK hc
  obtain ⟨⟨r, h1, cell, q1, q2, q3, q4⟩, hba⟩ := hM.at he
  have hr : r = (C, T, N) := Option.some.inj (h1.symm.trans hc)
  subst hr
  obtain ⟨hS, hfc, kC, hkC, hkind⟩ := hK.1 ci _ hc
  obtain ⟨cf, kf, fi, f, hi, hsl⟩ := hS k hk
  have hlay := hts _ (hin _ (u_in_lay hk))
  unfold u_lay at hlay
  rw [if_pos hfin] at hlay
  have hst := (u_facts hfc hkC (u_lays hts hin hk) hi).1
  have hcf : m.cls = cf := by
    obtain ⟨_, _, c', _, _, _, -, -, hf', -, -, -, hown2, -⟩ := Cond.laysFinal_spec hlay
    have e1 : c' = cf := by have := hi.symm.trans hf'; simp at this; exact this.1.symm
    rw [hdecl] at hown2
    rw [← e1]; exact Option.some.inj (hown.symm.trans hown2)
  have h6 := u_fits hfc hkC hkind (Or.inr hlay) hi hd hn hfit
  refine W.putFinK hexec hb hown hlink (hsame _ hi) hst hcf hin2 (by rw [q2]; exact h6) q1 q3 (by rw [hsl]; exact k2_hasslot (q4 k hk)) rfl rfl hdg fun H' e1 e2 e3 => ?_
  rw [hsl] at e1 ⊢
  exact kk H' _ e2 (hM.set he ⟨_, hc, t_OB.to (V := updV (vp_V fs) k v) ⟨_, e1, q2, q3, t_set q4 hap hk v⟩ (fun j _ => vp_updV_set hl v j)⟩ e3) (hS0.put e2 e3 hba)
theorem bm_iald (hexec : p.tables.exec = Jvm.exec) (hb : c.code = cc) (hK : va_K D bm_cl tys s) (hM : bm_M D base M H) (t0 : Nat) {cA : ClassId} {n : Nat} {f : Nat → Int32} (ha : M a = some (.inl (cA, n, .inl f))) (ht : tys[t0]? = some (cA, .int)) {i : Int32} (k : Nat) (hi : bm_ix i k) (hkn : k < n) (hdg : decode cc pc = .ok (.iaload, 1))
    (kk : W p l e R s m args below meth c H locs cells slots Q (F0 m (pc + 1) ls (.int (f k) :: rest))) : W p l e R s m args below meth c H locs cells slots Q (F0 m pc ls (.int i :: .ref a :: rest)) := by
  obtain ⟨ws, hP, hD, hw⟩ := hM
  obtain ⟨q0, hq⟩ := List.getElem?_of_mem ((hw a _).mp ha)
  obtain ⟨h0, rfl⟩ := hi
  exact va_iald hexec hb hK hP q0 t0 hq ht (bm_ix_in ⟨h0, rfl⟩ hkn) hdg kk
theorem bm_zald (hexec : p.tables.exec = Jvm.exec) (hb : c.code = cc) (hK : va_K D bm_cl tys s) (hM : bm_M D base M H) (t0 : Nat) {cA : ClassId} {n : Nat} {f : Nat → Int32} (ha : M a = some (.inl (cA, n, .inl f))) (ht : tys[t0]? = some (cA, .boolean)) {i : Int32} (k : Nat) (hi : bm_ix i k) (hkn : k < n) (hdg : decode cc pc = .ok (.baload, 1))
    (kk : W p l e R s m args below meth c H locs cells slots Q (F0 m (pc + 1) ls (.int (f k) :: rest))) : W p l e R s m args below meth c H locs cells slots Q (F0 m pc ls (.int i :: .ref a :: rest)) := by
  obtain ⟨ws, hP, hD, hw⟩ := hM
  obtain ⟨q0, hq⟩ := List.getElem?_of_mem ((hw a _).mp ha)
  obtain ⟨h0, rfl⟩ := hi
  exact va_zald hexec hb hK hP q0 t0 hq ht (bm_ix_in ⟨h0, rfl⟩ hkn) hdg kk
theorem bm_lald (hexec : p.tables.exec = Jvm.exec) (hb : c.code = cc) (hK : va_K D bm_cl tys s) (hM : bm_M D base M H) (t0 : Nat) {cA : ClassId} {n : Nat} {f : Nat → Int64} (ha : M a = some (.inl (cA, n, .inr (.inl f)))) (ht : tys[t0]? = some (cA, .long)) {i : Int32} (k : Nat) (hi : bm_ix i k) (hkn : k < n) (hdg : decode cc pc = .ok (.laload, 1))
    (kk : W p l e R s m args below meth c H locs cells slots Q (F0 m (pc + 1) ls (.long (f k) :: rest))) : W p l e R s m args below meth c H locs cells slots Q (F0 m pc ls (.int i :: .ref a :: rest)) := by
  obtain ⟨ws, hP, hD, hw⟩ := hM
  obtain ⟨q0, hq⟩ := List.getElem?_of_mem ((hw a _).mp ha)
  obtain ⟨h0, rfl⟩ := hi
  exact va_lald hexec hb hK hP q0 t0 hq ht (bm_ix_in ⟨h0, rfl⟩ hkn) hdg kk
theorem bm_aald (hexec : p.tables.exec = Jvm.exec) (hb : c.code = cc) (hK : va_K D bm_cl tys s) (hM : bm_M D base M H) (t0 : Nat) {cA : ClassId} {C : String} {n : Nat} {f : Nat → Option Nat} (ha : M a = some (.inl (cA, n, .inr (.inr (.inr (.inr f)))))) (ht : tys[t0]? = some (cA, .object C)) {i : Int32} (k : Nat) (hi : bm_ix i k) (hkn : k < n) {v : Value} (hv : va_rf (f k) = v) (hdg : decode cc pc = .ok (.aaload, 1))
    (kk : W p l e R s m args below meth c H locs cells slots Q (F0 m (pc + 1) ls (v :: rest))) : W p l e R s m args below meth c H locs cells slots Q (F0 m pc ls (.int i :: .ref a :: rest)) := by
  obtain ⟨ws, hP, hD, hw⟩ := hM
  obtain ⟨q0, hq⟩ := List.getElem?_of_mem ((hw a _).mp ha)
  obtain ⟨h0, rfl⟩ := hi
  subst hv
  exact va_aldq hexec hb hK hP q0 t0 hq ht (bm_ix_in ⟨h0, rfl⟩ hkn) hdg kk
theorem bm_alen (hexec : p.tables.exec = Jvm.exec) (hb : c.code = cc) (hK : va_K D bm_cl tys s) (hM : bm_M D base M H) (t0 : Nat) {cA : ClassId} {x : vp_A} (ha : M a = some (.inl (cA, x))) {ty : FieldType} (ht : tys[t0]? = some (cA, ty)) {v : Int32} (hv : Int32.ofNat x.1 = v) (hdg : decode cc pc = .ok (.arraylength, 1))
    (kk : W p l e R s m args below meth c H locs cells slots Q (F0 m (pc + 1) ls (.int v :: rest))) : W p l e R s m args below meth c H locs cells slots Q (F0 m pc ls (.ref a :: rest)) := by
  obtain ⟨ws, hP, hD, hw⟩ := hM
  obtain ⟨q0, hq⟩ := List.getElem?_of_mem ((hw a _).mp ha)
  exact va_alen hexec hb hK hP q0 t0 hq ht hv hdg kk
theorem bm_iast (hexec : p.tables.exec = Jvm.exec) (hb : c.code = cc) (hK : va_K D bm_cl tys s) (hM : bm_M D base M H) (hS : va_S (bm_A base) H0 H locs) (t0 : Nat) {cA : ClassId} {n : Nat} {f : Nat → Int32} (ha : M a = some (.inl (cA, n, .inl f))) (ht : tys[t0]? = some (cA, .int)) {i : Int32} {x : Int32} (k : Nat) (hi : bm_ix i k) (hkn : k < n) (hdg : decode cc pc = .ok (.iastore, 1))
    (kk : ∀ (H1 : Heap) (locs1 : List Loc), H1.size = H.size → bm_M D base (bm_up M a (.inl (cA, n, .inl (upd f k x)))) H1 → va_S (bm_A base) H0 H1 locs1 → W p l e R s m args below meth c H1 locs1 cells slots Q (F0 m (pc + 1) ls rest)) : W p l e R s m args below meth c H locs cells slots Q (F0 m pc ls (.int x :: .int i :: .ref a :: rest)) := by
  have hin := bm_ix_in hi hkn
  obtain ⟨h0, rfl⟩ := hi
  obtain ⟨hat, hba⟩ := hM.at ha
  refine W.iast hexec hb hat ((hK.2 t0 _ ht).1 n (fun j => .int (f j))) (fun q => by cases q) (by show ¬ (i < 0 ∨ (arrV _ _ _).slots.size ≤ _); rw [arrV_size]; exact hin) rfl rfl hdg fun H1 e z oq => ?_
  refine kk H1 _ z (hM.set ha ?_ oq) (hS.put z oq hba)
  show H1[a]? = some (vp_cell _ _)
  rw [e]
  rw [vp_cell_i, vp_cell_i, arrV_store]
  congr 2
  funext q
  by_cases hq : q = i.toNatClampNeg
  · subst hq
    simp [updV, upd]
  · simp [updV, upd, hq]
theorem bm_zast (hexec : p.tables.exec = Jvm.exec) (hb : c.code = cc) (hK : va_K D bm_cl tys s) (hM : bm_M D base M H) (hS : va_S (bm_A base) H0 H locs) (t0 : Nat) {cA : ClassId} {n : Nat} {f : Nat → Int32} (ha : M a = some (.inl (cA, n, .inl f))) (ht : tys[t0]? = some (cA, .boolean)) {i : Int32} {x : Int32} (k : Nat) (hi : bm_ix i k) (hkn : k < n) (hdg : decode cc pc = .ok (.bastore, 1))
    (kk : ∀ (H1 : Heap) (locs1 : List Loc), H1.size = H.size → bm_M D base (bm_up M a (.inl (cA, n, .inl (upd f k (vp_nar .boolean x))))) H1 → va_S (bm_A base) H0 H1 locs1 → W p l e R s m args below meth c H1 locs1 cells slots Q (F0 m (pc + 1) ls rest)) : W p l e R s m args below meth c H locs cells slots Q (F0 m pc ls (.int x :: .int i :: .ref a :: rest)) := by
  have hin := bm_ix_in hi hkn
  obtain ⟨h0, rfl⟩ := hi
  obtain ⟨hat, hba⟩ := hM.at ha
  refine W.zast hexec hb hat ((hK.2 t0 _ ht).1 n (fun j => .int (f j))) (fun q => by cases q) (by show ¬ (i < 0 ∨ (arrV _ _ _).slots.size ≤ _); rw [arrV_size]; exact hin) rfl rfl hdg fun H1 e z oq => ?_
  refine kk H1 _ z (hM.set ha ?_ oq) (hS.put z oq hba)
  show H1[a]? = some (vp_cell _ _)
  rw [e]
  rw [vp_cell_i, vp_cell_i, arrV_store]
  congr 2
  funext q
  by_cases hq : q = i.toNatClampNeg
  · subst hq
    simp [updV, upd, vp_nar]
    try rfl
  · simp [updV, upd, vp_nar, hq]
theorem bm_last (hexec : p.tables.exec = Jvm.exec) (hb : c.code = cc) (hK : va_K D bm_cl tys s) (hM : bm_M D base M H) (hS : va_S (bm_A base) H0 H locs) (t0 : Nat) {cA : ClassId} {n : Nat} {f : Nat → Int64} (ha : M a = some (.inl (cA, n, .inr (.inl f)))) (ht : tys[t0]? = some (cA, .long)) {i : Int32} {x : Int64} (k : Nat) (hi : bm_ix i k) (hkn : k < n) (hdg : decode cc pc = .ok (.lastore, 1))
    (kk : ∀ (H1 : Heap) (locs1 : List Loc), H1.size = H.size → bm_M D base (bm_up M a (.inl (cA, n, .inr (.inl (vp_updL f k x))))) H1 → va_S (bm_A base) H0 H1 locs1 → W p l e R s m args below meth c H1 locs1 cells slots Q (F0 m (pc + 1) ls rest)) : W p l e R s m args below meth c H locs cells slots Q (F0 m pc ls (.long x :: .int i :: .ref a :: rest)) := by
  have hin := bm_ix_in hi hkn
  obtain ⟨h0, rfl⟩ := hi
  obtain ⟨hat, hba⟩ := hM.at ha
  refine W.last hexec hb hat ((hK.2 t0 _ ht).1 n (fun j => .long (f j))) (fun q => by cases q) (by show ¬ (i < 0 ∨ (arrV _ _ _).slots.size ≤ _); rw [arrV_size]; exact hin) rfl rfl hdg fun H1 e z oq => ?_
  refine kk H1 _ z (hM.set ha ?_ oq) (hS.put z oq hba)
  show H1[a]? = some (vp_cell _ _)
  rw [e]
  rw [vp_cell_l, vp_cell_l, arrV_store]
  congr 2
  funext q
  by_cases hq : q = i.toNatClampNeg
  · subst hq
    simp [updV, vp_updL]
  · simp [updV, vp_updL, hq]
theorem bm_aast (hexec : p.tables.exec = Jvm.exec) (hb : c.code = cc) (hK : va_K D bm_cl tys s) (hM : bm_M D base M H) (hS : va_S (bm_A base) H0 H locs) (t0 ci : Nat) {cA : ClassId} {r : vw_C} {n v : Nat} {vs : List Value} {f : Nat → Option Nat} (ha : M a = some (.inl (cA, n, .inr (.inr (.inr (.inr f)))))) (ht : tys[t0]? = some (cA, .object r.1)) (hv : M v = some (.inr (ci, vs))) (hc : bm_cl[ci]? = some r) {i : Int32} (k : Nat) (hi : bm_ix i k) (hkn : k < n) (hdg : decode cc pc = .ok (.aastore, 1))
    (kk : ∀ (H1 : Heap) (locs1 : List Loc), H1.size = H.size → bm_M D base (bm_up M a (.inl (cA, n, .inr (.inr (.inr (.inr (va_up f k (some v)))))))) H1 → va_S (bm_A base) H0 H1 locs1 → W p l e R s m args below meth c H1 locs1 cells slots Q (F0 m (pc + 1) ls rest)) : W p l e R s m args below meth c H locs cells slots Q (F0 m pc ls (.ref v :: .int i :: .ref a :: rest)) := by
  obtain ⟨h0, rfl⟩ := hi
  obtain ⟨hat, hba⟩ := hM.at ha
  obtain ⟨⟨r', hr', cellV, g1, g2, g3, -⟩, -⟩ := hM.at hv
  have hcls := (hK.1 ci r hc).2
  obtain ⟨kA, comp, k1, k2, k3, -⟩ := (hK.2 t0 _ ht).2
  have hcomp : comp = D.1 ci := Option.some.inj (k3.symm.trans hcls.1)
  subst hcomp
  obtain ⟨kC, hkC, -⟩ := hcls.2
  refine W.aast hexec hb hat (fun q h => by cases h) (fun h => by cases h) k1 k2 rfl hkC ⟨h0, by show _ < (arrV _ _ _).slots.size; rw [arrV_size]; exact hkn⟩ g1 (fun q h => by rw [g3] at h; cases h) (by rw [g2]; exact hkC) (by rw [g2]; exact va_assign hcls) rfl rfl hdg fun H1 e z oq => ?_
  refine kk H1 _ z (hM.set ha ?_ oq) (hS.put z oq hba)
  show H1[a]? = some (vp_cell _ _)
  rw [e]
  rw [vp_cell_q, vp_cell_q, arrV_store]
  congr 2
  funext q
  by_cases hq : q = i.toNatClampNeg
  · subst hq
    simp [updV, va_up, va_rf]
  · simp [updV, va_up, hq]
theorem bm_new (hexec : p.tables.exec = Jvm.exec) (hb : c.code = cc) {own C : String} {T : u_T} {N ci index : Nat} {Ts : List Cond} (hts : ∀ w ∈ Ts, w.before args s = true) (hin : ∀ w ∈ u_ws C T N, w ∈ Ts) (ty : Nat → FieldType) (hty : ∀ k, k < N → parseFieldDescriptor (T k).2.2.1 = some (ty k)) (hown : s.vm.findClass own = some m.cls) (hcl : (Cond.classLink own index C).before args s = true) (hinst : (Cond.instantiable C N).before args s = true) (hini : (Cond.initialized C).before args s = true)
    (hK : va_K D bm_cl tys s) (hM : bm_M D base M H) (hS : va_S (bm_A base) H0 H locs) (hB : base ≤ H.size) (hc : bm_cl[ci]? = some (C, T, N)) {fs : List Value} (hfs : ∀ j, j < N → defaultValue (ty j) = vp_V fs j) (hcells : cells + 1 ≤ R.cells) (hslots : slots + N ≤ R.slots) (hdg : decode cc pc = .ok (.new index, 3))
    (kk : ∀ (H1 : Heap), H1.size = H.size + 1 → bm_M D base (bm_up M H.size (.inr (ci, fs))) H1 → va_S (bm_A base) H0 H1 locs → W p l e R s m args below meth c H1 locs (cells + 1) (slots + N) Q (F0 m (pc + 3) ls (.ref H.size :: rest))) : W p l e R s m args below meth c H locs cells slots Q (F0 m pc ls rest) := by
  have hKn := hK.1 ci _ hc
  refine W.newcK hexec hb hown hcl hinst hini rfl hdg hcells hslots hKn.2.1 rfl fun H1 kC hkC e1 z1 o1 => ?_
  exact kk H1 z1 (hM.push hB ⟨_, hc, (u_born ty hts hin hKn hkC e1 hty).to hfs⟩ o1) ⟨Nat.le_trans hS.1 (by omega), fun x h1 h2 => (o1 x (Nat.lt_of_lt_of_le h1 hS.1)).trans (hS.2.1 x h1 h2), hS.2.2⟩
theorem bm_newa (hexec : p.tables.exec = Jvm.exec) (hb : c.code = cc) {atype : ArrayType} (harr : (Cond.arrayClass (newarray.typeOf atype)).before args s = true) {ty : FieldType} (hty : newarray.typeOf atype = ty) (hK : va_K D bm_cl tys s) (hM : bm_M D base M H) (hS : va_S (bm_A base) H0 H locs) (hB : base ≤ H.size) (t0 : Nat) {cA : ClassId} (ht : tys[t0]? = some (cA, ty)) (hnr : ∀ C, ty ≠ .object C)
    {n : Int32} {N' : Nat} {a0 : vp_A} (ha : ∀ cA : ClassId, vp_cell cA a0 = arrV cA N' (fun _ => defaultValue ty)) (hn : ¬ n < 0) (hN : n.toNatClampNeg = N') (hbytes : N' * componentBytes ty ≤ 536870912) (hcells : cells + 1 ≤ R.cells) (hslots : slots + N' ≤ R.slots) (hdg : decode cc pc = .ok (.newarray atype, 2))
    (kk : ∀ (H1 : Heap), H1.size = H.size + 1 → bm_M D base (bm_up M H.size (.inl (cA, a0))) H1 → va_S (bm_A base) H0 H1 locs → W p l e R s m args below meth c H1 locs (cells + 1) (slots + N') Q (F0 m (pc + 2) ls (.ref H.size :: rest))) : W p l e R s m args below meth c H locs cells slots Q (F0 m pc ls (.int n :: rest)) := by
  subst hty
  refine va_newaK hexec hb harr rfl hdg rfl hn hN hbytes hcells hslots rfl fun H1 cA' e1 z1 o1 hAr hNm => ?_
  have hcc : cA' = cA := by
    have h2 := (hK.2 t0 _ ht).2
    cases atype <;> exact Option.some.inj (hNm.symm.trans h2)
  subst hcc
  refine kk H1 z1 (hM.push hB ?_ o1) ⟨Nat.le_trans hS.1 (by omega), fun x h1 h2 => (o1 x (Nat.lt_of_lt_of_le h1 hS.1)).trans (hS.2.1 x h1 h2), hS.2.2⟩
  show H1[H.size]? = some (vp_cell _ _)
  rw [ha]
  exact e1
theorem bm_newq (hexec : p.tables.exec = Jvm.exec) (hb : c.code = cc) {own C : String} {index : Nat} (hown : s.vm.findClass own = some m.cls) (hclink : (Cond.classLink own index C).before args s = true) (hover : (Cond.arrayOver (.object C)).before args s = true) (hK : va_K D bm_cl tys s) (hM : bm_M D base M H) (hS : va_S (bm_A base) H0 H locs) (hB : base ≤ H.size) (t0 : Nat) {cA : ClassId} (ht : tys[t0]? = some (cA, .object C))
    {n : Int32} {N' : Nat} (hn : ¬ n < 0) (hN : n.toNatClampNeg = N') (hbytes : N' * 4 ≤ 536870912) (hcells : cells + 1 ≤ R.cells) (hslots : slots + N' ≤ R.slots) (hdg : decode cc pc = .ok (.anewarray index, 3))
    (kk : ∀ (H1 : Heap), H1.size = H.size + 1 → bm_M D base (bm_up M H.size (.inl (cA, N', .inr (.inr (.inr (.inr (fun _ => none))))))) H1 → va_S (bm_A base) H0 H1 locs → W p l e R s m args below meth c H1 locs (cells + 1) (slots + N') Q (F0 m (pc + 3) ls (.ref H.size :: rest))) : W p l e R s m args below meth c H locs cells slots Q (F0 m pc ls (.int n :: rest)) := by
  subst hN
  refine W.anew hexec hb hown hclink hover rfl hdg rfl hn hbytes hcells hslots fun cA' kA comp f1 f2 f3 f4 => ?_
  have hcc : cA' = cA := by
    obtain ⟨kA', comp', k1, k2, k3, k4⟩ := (hK.2 t0 _ ht).2
    exact Option.some.inj (f1.symm.trans k4)
  subst hcc
  generalize hH1 : H.push ({ cls := cA', slots := Array.replicate n.toNatClampNeg .null, vm := .none } : Cell) = H1
  have z1 : H1.size = H.size + 1 := by rw [← hH1, Array.size_push]
  have e1 : H1[H.size]? = some (arrV cA' n.toNatClampNeg (fun _ => .null)) := by rw [← hH1, Array.getElem?_push_size, ← arrV_new]
  have o1 : ∀ q : Nat, q < H.size → H1[q]? = H[q]? := fun q hq => by rw [← hH1, Array.getElem?_push, if_neg (Nat.ne_of_lt hq)]
  refine kk H1 z1 (hM.push hB ?_ o1) ⟨Nat.le_trans hS.1 (by omega), fun x h1 h2 => (o1 x (Nat.lt_of_lt_of_le h1 hS.1)).trans (hS.2.1 x h1 h2), hS.2.2⟩
  show H1[H.size]? = some (vp_cell _ _)
  rw [vp_cell_q]
  exact e1
end BMR
end
section
/-! words on nest mates and casts: carried by hand -/
def bm_N (U : State) : Prop := va_Nw (Cond.methodLinkNest "BlindMint$Proposal" 27 ({ cls := "BlindMint$Candidate", name := "<init>", desc := "()V" } : MethodName) "BlindMint") U ∧ va_Nw (Cond.methodLinkNest "BlindMint" 61 ({ cls := "BlindMint$Account", name := "<init>", desc := "()V" } : MethodName) "BlindMint") U ∧ va_Nw (Cond.methodLinkNest "BlindMint$Payment" 29 ({ cls := "BlindMint", name := "isOne", desc := "(JI)Z" } : MethodName) "BlindMint") U ∧ va_Nw (Cond.methodLinkNest "BlindMint$Field" 9 ({ cls := "BlindMint", name := "isOne", desc := "(JI)Z" } : MethodName) "BlindMint") U ∧ va_Nw (Cond.castable "java/lang/IllegalArgumentException" "java/lang/IllegalArgumentException") U ∧ va_Nw (Cond.castable "java/lang/IllegalStateException" "java/lang/IllegalStateException") U ∧ va_Nw (Cond.castable "java/util/NoSuchElementException" "java/util/NoSuchElementException") U ∧ va_Nw (Cond.methodLinkNest "BlindMint$Credit" 40 ({ cls := "BlindMint", name := "isOne", desc := "(JI)Z" } : MethodName) "BlindMint") U ∧ va_Nw (Cond.castable "[J" "java/lang/Cloneable") U
theorem bm_N.same {u U : State} (h1 : u.vm = U.vm) (h : bm_N u) : bm_N U := ⟨va_Nw.same rfl h1 h.1, va_Nw.same rfl h1 h.2.1, va_Nw.same rfl h1 h.2.2.1, va_Nw.same rfl h1 h.2.2.2.1, va_Nw.same rfl h1 h.2.2.2.2.1, va_Nw.same rfl h1 h.2.2.2.2.2.1, va_Nw.same rfl h1 h.2.2.2.2.2.2.1, va_Nw.same rfl h1 h.2.2.2.2.2.2.2.1, va_Nw.same rfl h1 h.2.2.2.2.2.2.2.2⟩
theorem bm_N.warm {s U : State} (hW : s.WarmedH U.vm) (h : bm_N s) : bm_N U := ⟨va_Nw.warmM hW h.1, va_Nw.warmM hW h.2.1, va_Nw.warmM hW h.2.2.1, va_Nw.warmM hW h.2.2.2.1, va_Nw.warmC hW h.2.2.2.2.1, va_Nw.warmC hW h.2.2.2.2.2.1, va_Nw.warmC hW h.2.2.2.2.2.2.1, va_Nw.warmM hW h.2.2.2.2.2.2.2.1, va_Nw.warmC hW h.2.2.2.2.2.2.2.2⟩
theorem bm_N.w38 {U : State} (h : bm_N U) : va_Nw (Cond.methodLinkNest "BlindMint$Proposal" 27 ({ cls := "BlindMint$Candidate", name := "<init>", desc := "()V" } : MethodName) "BlindMint") U := h.1
theorem bm_N.w89 {U : State} (h : bm_N U) : va_Nw (Cond.methodLinkNest "BlindMint" 61 ({ cls := "BlindMint$Account", name := "<init>", desc := "()V" } : MethodName) "BlindMint") U := h.2.1
theorem bm_N.w194 {U : State} (h : bm_N U) : va_Nw (Cond.methodLinkNest "BlindMint$Payment" 29 ({ cls := "BlindMint", name := "isOne", desc := "(JI)Z" } : MethodName) "BlindMint") U := h.2.2.1
theorem bm_N.w212 {U : State} (h : bm_N U) : va_Nw (Cond.methodLinkNest "BlindMint$Field" 9 ({ cls := "BlindMint", name := "isOne", desc := "(JI)Z" } : MethodName) "BlindMint") U := h.2.2.2.1
theorem bm_N.w243 {U : State} (h : bm_N U) : va_Nw (Cond.castable "java/lang/IllegalArgumentException" "java/lang/IllegalArgumentException") U := h.2.2.2.2.1
theorem bm_N.w310 {U : State} (h : bm_N U) : va_Nw (Cond.castable "java/lang/IllegalStateException" "java/lang/IllegalStateException") U := h.2.2.2.2.2.1
theorem bm_N.w458 {U : State} (h : bm_N U) : va_Nw (Cond.castable "java/util/NoSuchElementException" "java/util/NoSuchElementException") U := h.2.2.2.2.2.2.1
theorem bm_N.w532 {U : State} (h : bm_N U) : va_Nw (Cond.methodLinkNest "BlindMint$Credit" 40 ({ cls := "BlindMint", name := "isOne", desc := "(JI)Z" } : MethodName) "BlindMint") U := h.2.2.2.2.2.2.2.1
theorem bm_N.w550 {U : State} (h : bm_N U) : va_Nw (Cond.castable "[J" "java/lang/Cloneable") U := h.2.2.2.2.2.2.2.2
/-! the class's constants: the static row of three denominations, and their fields -/
def bm_p : Nat → Nat
  | 0 => 1073741789
  | 1 => 998244389
  | _ => 1050000041
def bm_q : Nat → Nat
  | 0 => 1000000007
  | 1 => 900000011
  | _ => 1020000011
def bm_w : Nat → Int32
  | 0 => 1
  | 1 => 5
  | _ => 20
def bm_dn : String := "BlindMint$Denomination"
def bm_Z (base : Nat) (ad : Nat → Nat) (U : State) (H : Heap) : Prop :=
  va_Z "BlindMint" "DENOMINATIONS" "[LBlindMint$Denomination;" (.ref (ad 3)) (bm_A base) U H ∧ va_T (.object bm_dn) (ad 3) 3 (fun j => .ref (ad j)) (bm_A base) U H ∧ (∀ i, i < 3 → va_O bm_dn (ad i) (bm_A base) U H) ∧
  va_Ef 3 bm_dn "worth" "I" (fun i => .int (bm_w i)) ad (bm_A base) U H ∧ va_Ef 3 bm_dn "p" "J" (fun i => .long (lN (bm_p i))) ad (bm_A base) U H ∧ va_Ef 3 bm_dn "q" "J" (fun i => .long (lN (bm_q i))) ad (bm_A base) U H
theorem bm_Z.moved {base : Nat} {ad : Nat → Nat} {u U : State} {H : Heap} (hvm : u.vm.Alike U.vm) (h : bm_Z base ad u H) : bm_Z base ad U H :=
  ⟨va_Z.moved hvm h.1, va_T.moved hvm h.2.1, fun i hi => va_O.moved hvm (h.2.2.1 i hi), va_Ef.moved hvm h.2.2.2.1, va_Ef.moved hvm h.2.2.2.2.1, va_Ef.moved hvm h.2.2.2.2.2⟩
theorem bm_Z.kept {base : Nat} {ad : Nat → Nat} {U : State} {H H1 : Heap} (h : bm_Z base ad U H) (hq : ∀ a : Nat, a < H.size → ¬ bm_A base a → H1[a]? = H[a]?) : bm_Z base ad U H1 :=
  ⟨h.1.kept hq, h.2.1.kept hq, fun i hi => (h.2.2.1 i hi).kept hq, h.2.2.2.1.kept hq, h.2.2.2.2.1.kept hq, h.2.2.2.2.2.kept hq⟩
end
section
/-! what every method may rest on; contracts over the map; calls and returns -/
def bm_G (D : va_G) (ct : Nat → ClassId) (base : Nat) (ad : Nat → Nat) (U : State) : Prop := va_K D bm_cl (bm_tys ct) U ∧ base ≤ U.heap.size ∧ bm_N U ∧ bm_Z base ad U U.heap
theorem bm_G.K {D : va_G} {ct : Nat → ClassId} {base : Nat} {ad : Nat → Nat} {U : State} (h : bm_G D ct base ad U) : va_K D bm_cl (bm_tys ct) U := h.1
theorem bm_G.same {D : va_G} {ct : Nat → ClassId} {base : Nat} {ad : Nat → Nat} {u U : State} (h : bm_G D ct base ad u) (h1 : u.vm = U.vm) (h2 : U.heap = u.heap) : bm_G D ct base ad U :=
  ⟨va_K.moved (by rw [← h1]; exact Vm.Alike.refl u.vm) h.1, by rw [h2]; exact h.2.1, bm_N.same h1 h.2.2.1, by rw [h2]; exact bm_Z.moved (by rw [← h1]; exact Vm.Alike.refl u.vm) h.2.2.2⟩
theorem bm_G.go {D : va_G} {ct : Nat → ClassId} {base : Nat} {ad : Nat → Nat} {s U : State} {H : Heap} {locs : List Loc} (h : bm_G D ct base ad s) (hS : va_S (bm_A base) s.heap H locs) (hU : U.heap = H) (hW : s.WarmedH U.vm) : bm_G D ct base ad U :=
  ⟨va_K.moved hW.alike h.1, by rw [hU]; exact Nat.le_trans h.2.1 hS.1, bm_N.warm hW h.2.2.1, by rw [hU]; exact (bm_Z.moved hW.alike h.2.2.2).kept hS.2.1⟩
def bm_Pre (D : va_G) (ct : Nat → ClassId) (base : Nat) (ad : Nat → Nat) (M : bm_Map) (sz : Nat) (av : List Value) : Array Value → State → Prop := va_Pc av (fun U => U.heap.size = sz ∧ bm_M D base M U.heap ∧ bm_G D ct base ad U)
def bm_Post (D : va_G) (base : Nat) (post : Option Value → bm_Map → Nat → Prop) : Array Value → State → Outcome → State → Prop := fun _ st oc t => ∃ (v : Option Value) (M1 : bm_Map), oc = .returned v ∧ post v M1 t.heap.size ∧ bm_M D base M1 t.heap ∧ va_F (bm_A base) st t
/-- just this answer, this map, this size -/
def bm_Is (r : Option Value) (M1 : bm_Map) (z : Nat) : Option Value → bm_Map → Nat → Prop := fun v M n => v = r ∧ M = M1 ∧ n = z
theorem bm_Is.rf {r : Option Value} {M1 : bm_Map} {z : Nat} : bm_Is r M1 z r M1 z := ⟨rfl, rfl, rfl⟩
theorem bm_blind {D : va_G} {ct : Nat → ClassId} {base : Nat} {ad : Nat → Nat} {M : bm_Map} {sz : Nat} {av : List Value} : FrameBlind (bm_Pre D ct base ad M sz av) := fun _ U _ _ q => by
  obtain ⟨q0, q1, q2, q3⟩ := q
  exact ⟨q0, q1, q2, q3.same rfl rfl⟩
theorem bm_preS {D : va_G} {ct : Nat → ClassId} {base : Nat} {ad : Nat → Nat} {M : bm_Map} {sz : Nat} {av : List Value} {s : State} {H : Heap} {locs : List Loc} (hM : bm_M D base M H) (hG : bm_G D ct base ad s) (hS : va_S (bm_A base) s.heap H locs) (hz : H.size = sz) : PreS s H (bm_Pre D ct base ad M sz av) av :=
  ⟨bm_blind, fun U hU hW => ⟨rfl, by rw [hU]; exact hz, by rw [hU]; exact hM, hG.go hS hU hW⟩⟩
theorem bm_preV {D : va_G} {ct : Nat → ClassId} {base : Nat} {ad : Nat → Nat} {M : bm_Map} {sz b ci : Nat} {fs As : List Value} {q : vw_C} {s : State} {H : Heap} {locs : List Loc} (hM : bm_M D base M H) (hG : bm_G D ct base ad s) (hS : va_S (bm_A base) s.heap H locs) (hz : H.size = sz) (he : M b = some (.inr (ci, fs))) (hc : bm_cl[ci]? = some q) : PreV s H q.1 b (bm_Pre D ct base ad M sz (.ref b :: As)) As :=
  ⟨bm_blind, by
    obtain ⟨ws, hP, hD, hw⟩ := hM
    obtain ⟨q0, hq⟩ := List.getElem?_of_mem ((hw b _).mp he)
    exact va_recv hG.K hP hc hq, fun U hU hW => ⟨rfl, by rw [hU]; exact hz, by rw [hU]; exact hM, hG.go hS hU hW⟩⟩
/-- a method's head -/
theorem bm_ofW {l : Launch} {y : MethodName} {ws ws' : List Cond} {rm : Room} {D : va_G} {ct : Nat → ClassId} {base : Nat} {ad : Nat → Nat} {M : bm_Map} {sz : Nat} {av : List Value} {post : Option Value → bm_Map → Nat → Prop} {mc ms : Nat} {cc : ByteArray} {maxL : Nat} {ret : Option FieldType}
    (hy : plainName y.cls = true) (hw : ws = Cond.code y cc maxL ret :: ws') (hlen : (lg_sl av).length ≤ maxL)
    (body : ∀ (p : Program) (e : Env) (s : State) (m : MethodId) (args : Array Value) (below : List Frame) (meth : Method) (c : Code), p.tables.exec = Jvm.exec → c.code = cc → meth.sig.returnType = ret → meth.locks = false → (∀ w ∈ ws, w.before args s = true) → s.vm.findClass y.cls = some m.cls → c.maxLocals = maxL → meth.name = y.name →
      ∀ ls : Array Slot, lv_has ls maxL (lv_args 0 av) → s.heap.size = sz → bm_M D base M s.heap → bm_G D ct base ad s → ∀ (R : Room) (Q : State → Prop), rm = R → MQ below (bm_Post D base post) args s mc ms (bm_A base) = Q → W p l e R s m args below meth c s.heap [] 0 0 Q (F0 m 0 ls [])) :
    Met l y ws rm (bm_Pre D ct base ad M sz av) (bm_Post D base post) mc ms (bm_A base) := by
  refine Met.ofW (cc := cc) (maxL := maxL) (ret := ret) hy hw ?_
  intro p e s m args below meth c s₁ B hml hv
  obtain ⟨rfl, hsz, hM, hG⟩ := hv
  rw [lg_entry_eq]
  exact body p e s m _ below meth c B.exec B.bytes B.returns B.notSynchronized (atoms_spec (ws := ws) B.pre) (findClass_of_methodNamed B.named) hml (name_of_methodNamed B.named B.method).1 _ (lv_entry av hlen) hsz hM hG _ _ rfl rfl
section BMC
variable {p : Program} {l : Launch} {e : Env} {R : Room} {s : State} {m : MethodId} {args : Array Value} {below : List Frame} {meth : Method} {c : Code} {H : Heap} {locs : List Loc} {cells slots : Nat} {Q : State → Prop}
variable {cc : ByteArray} {pc : Nat} {ls : Array Slot} {rest st0 : List Value} {D : va_G} {base : Nat} {a : Array Value} {M M1 : bm_Map} {H0 : Heap} {mc ms : Nat} {post : Option Value → bm_Map → Nat → Prop}
theorem bm_call (hr : va_Run p l e R s m args below meth c H locs cells slots mc ms (F0 m pc ls st0) rest (bm_Post D base post a) (bm_A base)) (hS : va_S (bm_A base) H0 H locs)
    (kk : ∀ (v : Option Value) (M1 : bm_Map) (H1 : Heap) (locs1 : List Loc), post v M1 H1.size → bm_M D base M1 H1 → va_S (bm_A base) H0 H1 locs1 → H.size ≤ H1.size → W p l e R s m args below meth c H1 locs1 (cells + mc) (slots + ms) Q (F0 m (pc + 3) ls (v.toList ++ rest))) : W p l e R s m args below meth c H locs cells slots Q (F0 m pc ls st0) := by
  intro T hT X
  obtain ⟨v, st₀, t, T', L, h0, X', hL, e1, e2, ⟨v', M1, hv, hp, hm, hF⟩, st⟩ := hr T hT X
  cases hv
  have hz : H.size ≤ t.heap.size := by rw [← h0]; exact hF.1
  obtain ⟨t2, a1, b1⟩ := kk v M1 T'.heap (locs ++ L) (by rw [e1]; exact hp) (by rw [e1]; exact hm)
    ⟨Nat.le_trans hS.1 (by rw [e1]; exact hz), fun q h1 h2 => by rw [e1, hF.2 q (by rw [h0]; exact Nat.lt_of_lt_of_le h1 hS.1) h2, h0]; exact hS.2.1 q h1 h2, fun q hq => by
      rcases List.mem_append.mp hq with h | h
      · exact hS.2.2 q h
      · exact hL q h⟩ (by rw [e1]; exact hz) T' rfl X'
  exact ⟨t2, st t2 a1, b1⟩
theorem bm_callE {r : Value} {z : Nat} (hr : va_Run p l e R s m args below meth c H locs cells slots mc ms (F0 m pc ls st0) rest (bm_Post D base (bm_Is (some r) M1 z) a) (bm_A base)) (hS : va_S (bm_A base) H0 H locs)
    (kk : ∀ (H1 : Heap) (locs1 : List Loc), H1.size = z → bm_M D base M1 H1 → va_S (bm_A base) H0 H1 locs1 → W p l e R s m args below meth c H1 locs1 (cells + mc) (slots + ms) Q (F0 m (pc + 3) ls (r :: rest))) : W p l e R s m args below meth c H locs cells slots Q (F0 m pc ls st0) :=
  bm_call hr hS (fun v M2 H1 locs1 hp hm hS1 _ => by
    obtain ⟨rfl, rfl, hz⟩ := hp
    exact kk H1 locs1 hz hm hS1)
theorem bm_callU {z : Nat} (hr : va_Run p l e R s m args below meth c H locs cells slots mc ms (F0 m pc ls st0) rest (bm_Post D base (bm_Is none M1 z) a) (bm_A base)) (hS : va_S (bm_A base) H0 H locs)
    (kk : ∀ (H1 : Heap) (locs1 : List Loc), H1.size = z → bm_M D base M1 H1 → va_S (bm_A base) H0 H1 locs1 → W p l e R s m args below meth c H1 locs1 (cells + mc) (slots + ms) Q (F0 m (pc + 3) ls rest)) : W p l e R s m args below meth c H locs cells slots Q (F0 m pc ls st0) :=
  bm_call hr hS (fun v M2 H1 locs1 hp hm hS1 _ => by
    obtain ⟨rfl, rfl, hz⟩ := hp
    exact kk H1 locs1 hz hm hS1)
theorem bm_iret (hQ : MQ below (bm_Post D base post) args s mc ms (bm_A base) = Q) (hexec : p.tables.exec = Jvm.exec) (hb : c.code = cc) (hr : meth.sig.returnType = some .int) (hlk : meth.locks = false) {v : Int32} (hM : bm_M D base M1 H) (hS : va_S (bm_A base) s.heap H locs) (hp : post (some (.int v)) M1 H.size) (hc : cells ≤ mc) (hs : slots ≤ ms) (hdg : decode cc pc = .ok (.ireturn, 1)) : W p l e R s m args below meth c H locs cells slots Q (F0 m pc ls [.int v]) := by
  subst hQ
  exact W.widen hc hs (W.iret hexec hb hr (fun t ht hW => ⟨_, M1, rfl, by rw [ht]; exact hp, by rw [ht]; exact hM, hS.F ht⟩) hS.2.2 hdg hlk)
theorem bm_zret (hQ : MQ below (bm_Post D base post) args s mc ms (bm_A base) = Q) (hexec : p.tables.exec = Jvm.exec) (hb : c.code = cc) (hr : meth.sig.returnType = some .boolean) (hlk : meth.locks = false) {v : Int32} (hn : narrow .boolean (.int v) = .int v) (hM : bm_M D base M1 H) (hS : va_S (bm_A base) s.heap H locs) (hp : post (some (.int v)) M1 H.size) (hc : cells ≤ mc) (hs : slots ≤ ms) (hdg : decode cc pc = .ok (.ireturn, 1)) : W p l e R s m args below meth c H locs cells slots Q (F0 m pc ls [.int v]) := by
  subst hQ
  exact W.widen hc hs (W.zret hexec hb hr hn (fun t ht hW => ⟨_, M1, rfl, by rw [ht]; exact hp, by rw [ht]; exact hM, hS.F ht⟩) hS.2.2 hdg hlk)
theorem bm_lret (hQ : MQ below (bm_Post D base post) args s mc ms (bm_A base) = Q) (hexec : p.tables.exec = Jvm.exec) (hb : c.code = cc) (hr : meth.sig.returnType = some .long) (hlk : meth.locks = false) {v : Int64} (hM : bm_M D base M1 H) (hS : va_S (bm_A base) s.heap H locs) (hp : post (some (.long v)) M1 H.size) (hc : cells ≤ mc) (hs : slots ≤ ms) (hdg : decode cc pc = .ok (.lreturn, 1)) : W p l e R s m args below meth c H locs cells slots Q (F0 m pc ls [.long v]) := by
  subst hQ
  exact W.widen hc hs (W.lret hexec hb hr (fun t ht hW => ⟨_, M1, rfl, by rw [ht]; exact hp, by rw [ht]; exact hM, hS.F ht⟩) hS.2.2 hdg hlk)
theorem bm_vret (hQ : MQ below (bm_Post D base post) args s mc ms (bm_A base) = Q) (hexec : p.tables.exec = Jvm.exec) (hb : c.code = cc) (hr : meth.sig.returnType = none) (hlk : meth.locks = false) (hM : bm_M D base M1 H) (hS : va_S (bm_A base) s.heap H locs) (hp : post none M1 H.size) (hc : cells ≤ mc) (hs : slots ≤ ms) (hdg : decode cc pc = .ok (.return_, 1)) : W p l e R s m args below meth c H locs cells slots Q (F0 m pc ls []) := by
  subst hQ
  exact W.widen hc hs (W.vret hexec hb hr (fun t ht hW => ⟨_, M1, rfl, by rw [ht]; exact hp, by rw [ht]; exact hM, hS.F ht⟩) hS.2.2 hdg hlk)
theorem bm_aret (hQ : MQ below (bm_Post D base post) args s mc ms (bm_A base) = Q) (hexec : p.tables.exec = Jvm.exec) (hb : c.code = cc) {rt : FieldType} (hr : meth.sig.returnType = some rt) (hlk : meth.locks = false) (hrt : (∃ n, rt = .object n) ∨ ∃ t, rt = .array t) {v : Value} (hv : v = .null ∨ ∃ a, v = .ref a) (hM : bm_M D base M1 H) (hS : va_S (bm_A base) s.heap H locs) (hp : post (some v) M1 H.size) (hc : cells ≤ mc) (hs : slots ≤ ms) (hdg : decode cc pc = .ok (.areturn, 1)) : W p l e R s m args below meth c H locs cells slots Q (F0 m pc ls [v]) := by
  subst hQ
  exact W.widen hc hs (W.aret hexec hb hr hrt hv (fun t ht hW => ⟨_, M1, rfl, by rw [ht]; exact hp, by rw [ht]; exact hM, hS.F ht⟩) hS.2.2 hdg hlk)
end BMC
end
section
/-- a method's head, its words being its code and the tables' -/
theorem bm_ofB {l : Launch} {y : MethodName} {rm : Room} {D : va_G} {ct : Nat → ClassId} {base : Nat} {ad : Nat → Nat} {M : bm_Map} {sz : Nat} {av : List Value} {post : Option Value → bm_Map → Nat → Prop} {mc ms : Nat} {cc : ByteArray} {maxL : Nat} {ret : Option FieldType}
    (hy : plainName y.cls = true) (hlen : (lg_sl av).length ≤ maxL)
    (body : ∀ (p : Program) (e : Env) (s : State) (m : MethodId) (args : Array Value) (below : List Frame) (meth : Method) (c : Code), p.tables.exec = Jvm.exec → c.code = cc → meth.sig.returnType = ret → meth.locks = false → (∀ w ∈ bm_big, w.before args s = true) → s.vm.findClass y.cls = some m.cls → c.maxLocals = maxL → meth.name = y.name →
      ∀ ls : Array Slot, lv_has ls maxL (lv_args 0 av) → s.heap.size = sz → bm_M D base M s.heap → bm_G D ct base ad s → ∀ (R : Room) (Q : State → Prop), rm = R → MQ below (bm_Post D base post) args s mc ms (bm_A base) = Q → W p l e R s m args below meth c s.heap [] 0 0 Q (F0 m 0 ls [])) :
    Met l y (bm_ws y cc maxL ret) rm (bm_Pre D ct base ad M sz av) (bm_Post D base post) mc ms (bm_A base) :=
  bm_ofW hy rfl hlen (fun p e s m args below meth c hx hb hr hlk hts => body p e s m args below meth c hx hb hr hlk (fun w h => hts w (List.mem_cons_of_mem _ h)))
end
section
def bm_C : Nat → Nat → Nat
  | _, 0 => 1
  | 0, _ + 1 => 0
  | n + 1, k + 1 => bm_C n k + bm_C n (k + 1)
theorem bm_C_0 (n : Nat) : bm_C n 0 = 1 := by cases n <;> rfl
theorem bm_C_s (n k : Nat) : bm_C (n + 1) (k + 1) = bm_C n k + bm_C n (k + 1) := rfl
theorem bm_C_big : ∀ (n k : Nat), n < k → bm_C n k = 0 := by
  intro n
  induction n with
  | zero =>
    intro k h
    cases k with
    | zero => omega
    | succ k => rfl
  | succ n ih =>
    intro k h
    cases k with
    | zero => omega
    | succ k => rw [bm_C_s, ih k (by omega), ih (k + 1) (by omega)]
theorem bm_C_self (n : Nat) : bm_C n n = 1 := by
  induction n with
  | zero => rfl
  | succ n ih => rw [bm_C_s, ih, bm_C_big n (n + 1) (by omega)]
theorem bm_C_abs : ∀ (n k : Nat), (k + 1) * bm_C (n + 1) (k + 1) = (n + 1) * bm_C n k := by
  intro n
  induction n with
  | zero =>
    intro k
    cases k with
    | zero => rfl
    | succ k =>
      rw [bm_C_s, bm_C_big 0 (k + 1) (by omega), bm_C_big 0 (k + 1 + 1) (by omega)]
      simp
  | succ n ih =>
    intro k
    cases k with
    | zero =>
      have h := ih 0
      have e : bm_C (n + 1 + 1) (0 + 1) = bm_C (n + 1) 0 + bm_C (n + 1) (0 + 1) := rfl
      rw [bm_C_0] at h e ⊢
      rw [e]
      omega
    | succ k =>
      have h1 := ih k
      have h2 := ih (k + 1)
      have e : bm_C (n + 1) (k + 1) = bm_C n k + bm_C n (k + 1) := rfl
      have e2 : (n + 1) * bm_C (n + 1) (k + 1) = (n + 1) * bm_C n k + (n + 1) * bm_C n (k + 1) := by rw [e, Nat.mul_add]
      rw [bm_C_s (n + 1) (k + 1), Nat.mul_add, h2, Nat.succ_mul (k + 1), h1, Nat.succ_mul (n + 1)]
      omega
def bm_S (a n : Nat) : Nat → Nat
  | 0 => 0
  | m + 1 => bm_S a n m + bm_C n m * a ^ m
theorem bm_S_s (a n m : Nat) : bm_S a (n + 1) (m + 1) = bm_S a n (m + 1) + a * bm_S a n m := by
  induction m with
  | zero => simp [bm_S, bm_C_0]
  | succ m ih =>
    have e1 : bm_S a (n + 1) (m + 1 + 1) = bm_S a (n + 1) (m + 1) + bm_C (n + 1) (m + 1) * a ^ (m + 1) := rfl
    have e2 : bm_S a n (m + 1 + 1) = bm_S a n (m + 1) + bm_C n (m + 1) * a ^ (m + 1) := rfl
    have e3 : bm_S a n (m + 1) = bm_S a n m + bm_C n m * a ^ m := rfl
    have e4 : a * bm_S a n (m + 1) = a * bm_S a n m + bm_C n m * a ^ (m + 1) := by
      rw [e3, Nat.mul_add, Nat.pow_succ, Nat.mul_left_comm a (bm_C n m) (a ^ m), Nat.mul_comm a (a ^ m)]
    rw [e1, ih, bm_C_s, Nat.add_mul, e2, e4]
    omega
theorem bm_binom (a n : Nat) : (a + 1) ^ n = bm_S a n (n + 1) := by
  induction n with
  | zero => simp [bm_S, bm_C_0]
  | succ n ih =>
    have e2 : bm_S a n (n + 1 + 1) = bm_S a n (n + 1) + bm_C n (n + 1) * a ^ (n + 1) := rfl
    rw [bm_C_big n (n + 1) (by omega), Nat.zero_mul, Nat.add_zero] at e2
    rw [Nat.pow_succ, ih, bm_S_s, e2, Nat.mul_add, Nat.mul_one, Nat.mul_comm a, Nat.add_comm]
    omega
/-- a prime, as what is used of it -/
def bm_Pr (p : Nat) : Prop := 1 < p ∧ ∀ k, 0 < k → k < p → Nat.Coprime p k
theorem bm_C_dvd {p k : Nat} (hp : bm_Pr p) (h0 : 0 < k) (hk : k < p) : p ∣ bm_C p k := by
  obtain ⟨q, rfl⟩ : ∃ q, p = q + 1 := ⟨p - 1, by omega⟩
  obtain ⟨j, rfl⟩ : ∃ j, k = j + 1 := ⟨k - 1, by omega⟩
  have h : (q + 1) ∣ (j + 1) * bm_C (q + 1) (j + 1) := ⟨bm_C q j, bm_C_abs q j⟩
  exact Nat.Coprime.dvd_of_dvd_mul_left (hp.2 (j + 1) h0 hk) h
theorem bm_S_mod {p : Nat} (hp : bm_Pr p) (a : Nat) : ∀ m, m < p → bm_S a p (m + 1) % p = 1 % p := by
  intro m
  induction m with
  | zero => intro _; simp [bm_S, bm_C_0]
  | succ m ih =>
    intro h
    have e : bm_S a p (m + 1 + 1) = bm_S a p (m + 1) + bm_C p (m + 1) * a ^ (m + 1) := rfl
    obtain ⟨c, hc⟩ := bm_C_dvd hp (show 0 < m + 1 by omega) h
    rw [e, hc, Nat.mul_assoc, Nat.add_mul_mod_self_left]
    exact ih (by omega)
theorem bm_fermat0 {p : Nat} (hp : bm_Pr p) (a : Nat) : a ^ p % p = a % p := by
  obtain ⟨q, hq⟩ : ∃ q, p = q + 1 := ⟨p - 1, by have := hp.1; omega⟩
  induction a with
  | zero => rw [hq, Nat.zero_pow (by omega)]
  | succ a ih =>
    have e : bm_S a p (p + 1) = bm_S a p p + bm_C p p * a ^ p := rfl
    have h1 : bm_S a p p % p = 1 % p := by
      have h := bm_S_mod hp a q (by omega)
      rw [← hq] at h
      exact h
    rw [bm_binom, e, bm_C_self, Nat.one_mul, Nat.add_mod, h1, ih, ← Nat.add_mod, Nat.add_comm 1 a]
/-- Fermat -/
theorem bm_fermat {p : Nat} (hp : bm_Pr p) {a : Nat} (ha : a % p ≠ 0) : a ^ (p - 1) % p = 1 := by
  have h1p := hp.1
  have hlt : a % p < p := Nat.mod_lt _ (by omega)
  rw [Nat.pow_mod]
  generalize a % p = b at ha hlt
  have hc := hp.2 b (by omega) hlt
  obtain ⟨q, hq⟩ : ∃ q, p = q + 1 := ⟨p - 1, by omega⟩
  have e1 : p - 1 = q := by omega
  rw [e1]
  have h := bm_fermat0 hp b
  have e2 : b ^ p = b ^ q * b := by rw [hq, Nat.pow_succ]
  rw [e2] at h
  have h2 := Nat.sub_mod_eq_zero_of_mod_eq h
  have h3 : b ^ q * b - b = (b ^ q - 1) * b := (Nat.sub_one_mul (b ^ q) b).symm
  rw [h3] at h2
  obtain ⟨k, hk⟩ := Nat.Coprime.dvd_of_dvd_mul_right hc (Nat.dvd_of_mod_eq_zero h2)
  have h4 : 0 < b ^ q := Nat.pow_pos (by omega)
  have h5 : b ^ q = p * k + 1 := by omega
  rw [h5, Nat.mul_add_mod, Nat.mod_eq_of_lt h1p]
/-- no divisor among lo .. lo + 2^n - 1 -/
def bm_nd (p lo : Nat) : Nat → Bool
  | 0 => p % lo != 0
  | n + 1 => bm_nd p lo n && bm_nd p (lo + 2 ^ n) n
theorem bm_nd_ok : ∀ (n p lo d : Nat), bm_nd p lo n = true → lo ≤ d → d < lo + 2 ^ n → p % d ≠ 0 := by
  intro n
  induction n with
  | zero =>
    intro p lo d h h1 h2
    have e : d = lo := by
      have h3 : (2 : Nat) ^ 0 = 1 := rfl
      omega
    subst e
    simpa [bm_nd] using h
  | succ n ih =>
    intro p lo d h h1 h2
    have h3 : (bm_nd p lo n && bm_nd p (lo + 2 ^ n) n) = true := h
    rw [Bool.and_eq_true] at h3
    have h4 : (2 : Nat) ^ (n + 1) = 2 ^ n * 2 := Nat.pow_succ 2 n
    by_cases h5 : d < lo + 2 ^ n
    · exact ih p lo d h3.1 h1 h5
    · exact ih p (lo + 2 ^ n) d h3.2 (by omega) (by omega)
theorem bm_pr_of {p n : Nat} (h1 : 1 < p) (h : bm_nd p 2 n = true) (hb : p < (2 + 2 ^ n) * (2 + 2 ^ n)) : bm_Pr p := by
  refine ⟨h1, fun k h0 hk => ?_⟩
  have hd1 := Nat.gcd_dvd_left p k
  have hd2 := Nat.gcd_dvd_right p k
  show Nat.gcd p k = 1
  generalize Nat.gcd p k = g at hd1 hd2 ⊢
  have hg0 : 0 < g := Nat.pos_of_dvd_of_pos hd2 h0
  have hgk : g ≤ k := Nat.le_of_dvd h0 hd2
  obtain ⟨c, hc⟩ := hd1
  by_cases hg : g = 1
  · exact hg
  exfalso
  have hc2 : 2 ≤ c := by
    match c, hc with
    | 0, hc => omega
    | 1, hc => omega
    | c + 2, _ => omega
  have small : ∀ d, 2 ≤ d → d ∣ p → d * d ≤ p → False := fun d h2 hdv hdd => by
    have hlt : d < 2 + 2 ^ n := by
      refine Nat.lt_of_not_le (fun hge => ?_)
      have := Nat.mul_le_mul hge hge
      omega
    exact bm_nd_ok n p 2 d h h2 hlt (Nat.mod_eq_zero_of_dvd hdv)
  rcases Nat.le_total g c with hgc | hgc
  · exact small g (by omega) ⟨c, hc⟩ (by rw [hc]; exact Nat.mul_le_mul_left g hgc)
  · exact small c hc2 ⟨g, by rw [hc, Nat.mul_comm]⟩ (by rw [hc]; exact Nat.mul_le_mul_right c hgc)
theorem bm_pr_p0 : bm_Pr 1073741789 := bm_pr_of (n := 15) (by decide) (by decide +kernel) (by decide)
theorem bm_pr_q0 : bm_Pr 1000000007 := bm_pr_of (n := 15) (by decide) (by decide +kernel) (by decide)
theorem bm_pr_p1 : bm_Pr 998244389 := bm_pr_of (n := 15) (by decide) (by decide +kernel) (by decide)
theorem bm_pr_q1 : bm_Pr 900000011 := bm_pr_of (n := 15) (by decide) (by decide +kernel) (by decide)
theorem bm_pr_p2 : bm_Pr 1050000041 := bm_pr_of (n := 15) (by decide) (by decide +kernel) (by decide)
theorem bm_pr_q2 : bm_Pr 1020000011 := bm_pr_of (n := 15) (by decide) (by decide +kernel) (by decide)
/-- the powers' loop, bit by bit -/
theorem bm_pow_1 {b e p i : Nat} (h : e / 2 ^ i % 2 = 1) : b ^ (e % 2 ^ i) % p * (b ^ (2 ^ i) % p) % p = b ^ (e % 2 ^ (i + 1)) % p := by
  rw [← Nat.mul_mod, ← Nat.pow_add, Nat.mod_pow_succ, h, Nat.mul_one]
theorem bm_pow_0 {b e p i : Nat} (h : e / 2 ^ i % 2 = 0) : b ^ (e % 2 ^ i) % p = b ^ (e % 2 ^ (i + 1)) % p := by
  rw [Nat.mod_pow_succ, h, Nat.mul_zero, Nat.add_zero]
theorem bm_pow_s {b p i : Nat} : b ^ (2 ^ i) % p * (b ^ (2 ^ i) % p) % p = b ^ (2 ^ (i + 1)) % p := by
  rw [← Nat.mul_mod, ← Nat.pow_add, Nat.pow_succ 2 i, Nat.mul_two]
/-- blind, sign, unblind: modulo one prime -/
theorem bm_unb {p u k r m b : Nat} (hp : bm_Pr p) (hr : r % p ≠ 0) (hu : 17 * u = 1 + k * (p - 1)) (hb : b % p = m * r ^ 17 % p) : b ^ u % p * (r ^ (p - 2) % p) % p = m ^ u % p := by
  have h1p := hp.1
  have e : (m * r ^ 17) ^ u * r ^ (p - 2) = m ^ u * (r ^ (p - 1)) ^ (k + 1) := by
    have e1 : 1 + k * (p - 1) + (p - 2) = (p - 1) * (k + 1) := by
      obtain ⟨t, ht⟩ : ∃ t, p - 2 = t := ⟨_, rfl⟩
      have h9 : p - 1 = t + 1 := by omega
      rw [ht, h9, Nat.mul_add (t + 1) k 1, Nat.mul_one, Nat.mul_comm (t + 1) k]
      omega
    rw [Nat.mul_pow, ← Nat.pow_mul, hu, Nat.mul_assoc, ← Nat.pow_add, e1, Nat.pow_mul]
  rw [Nat.pow_mod b, hb, ← Nat.pow_mod, ← Nat.mul_mod, e, Nat.mul_mod, Nat.pow_mod (r ^ (p - 1)), bm_fermat hp hr, Nat.one_pow, Nat.mod_eq_of_lt h1p, Nat.mul_one, Nat.mod_mod]
/-- the remainder of y - x -/
def bm_fm (q x y : Nat) : Nat := (((y : Int) - (x : Int)) % (q : Int)).toNat
/-- the number that leaves x and y -/
def bm_jn (p q i x y : Nat) : Nat := x + p * (bm_fm q x y * i % q)
theorem bm_fm_lt {q x y : Nat} (h : 0 < q) : bm_fm q x y < q := by
  have h1 := Int.emod_nonneg ((y : Int) - (x : Int)) (show (q : Int) ≠ 0 by omega)
  have h2 := Int.emod_lt_of_pos ((y : Int) - (x : Int)) (show 0 < (q : Int) by omega)
  unfold bm_fm
  omega
theorem bm_fm_add {q x y : Nat} (h : 0 < q) : (x + bm_fm q x y) % q = y % q := by
  have h1 := Int.emod_nonneg ((y : Int) - (x : Int)) (show (q : Int) ≠ 0 by omega)
  have h2 : ((bm_fm q x y : Nat) : Int) = ((y : Int) - (x : Int)) % (q : Int) := by unfold bm_fm; omega
  have h3 : (((x + bm_fm q x y) % q : Nat) : Int) = ((y % q : Nat) : Int) := by
    rw [Int.natCast_emod, Int.natCast_add, h2, Int.add_emod_emod, Int.natCast_emod]
    congr 1
    omega
  exact Int.ofNat.inj h3
theorem bm_jn_p {p q i x y : Nat} (hx : x < p) : bm_jn p q i x y % p = x := by
  unfold bm_jn
  rw [Nat.add_mul_mod_self_left, Nat.mod_eq_of_lt hx]
theorem bm_jn_q {p q i x y : Nat} (hq : 0 < q) (hi : p * i % q = 1) (hy : y < q) : bm_jn p q i x y % q = y := by
  unfold bm_jn
  have e : p * (bm_fm q x y * i % q) % q = bm_fm q x y % q := by
    rw [Nat.mul_mod_mod, Nat.mul_left_comm, Nat.mul_mod, hi, Nat.mul_one, Nat.mod_mod]
  rw [Nat.add_mod, e, ← Nat.add_mod, bm_fm_add hq, Nat.mod_eq_of_lt hy]
theorem bm_jn_lt {p q i x y : Nat} (hq : 0 < q) (hx : x < p) : bm_jn p q i x y < p * q := by
  unfold bm_jn
  have h1 : bm_fm q x y * i % q + 1 ≤ q := Nat.mod_lt _ hq
  have h2 := Nat.mul_le_mul_left p h1
  rw [Nat.mul_add, Nat.mul_one] at h2
  omega
end
section
/-! ===== lN n to 2^64: shifts, and, or, masks, one bit ===== -/
theorem wb_tb (n : Nat) : (lN n).toBitVec = BitVec.ofNat 64 n := rfl
theorem wb_inj {a b : Int64} (h : a.toBitVec = b.toBitVec) : a = b := Int64.toBitVec_inj.mp h
theorem wb_tn {n : Nat} (h : n < 2 ^ 64) : (lN n).toBitVec.toNat = n := by rw [wb_tb, BitVec.toNat_ofNat, Nat.mod_eq_of_lt h]
theorem wb_of (x : Int64) : ∃ n, n < 2 ^ 64 ∧ x = lN n := ⟨x.toBitVec.toNat, x.toBitVec.isLt, wb_inj (by rw [wb_tb]; simp)⟩
theorem wb_of32 (x : Int32) : ∃ n, n < 2 ^ 32 ∧ x = nI n := ⟨x.toBitVec.toNat, x.toBitVec.isLt, Int32.toBitVec_inj.mp (by show _ = BitVec.ofNat 32 _; simp)⟩
theorem wb_c : ∀ k, k < 64 → ((nI k).toInt64 &&& 63) = lN k := by decide +kernel
theorem wb_cu : ∀ k, k < 64 → ((nI k).toInt64.toUInt64 &&& Int64.toUInt64 63) = UInt64.ofNat k := by decide +kernel
theorem wb_sm : ∀ k, k < 64 → (BitVec.ofNat 64 k).smod 64 = BitVec.ofNat 64 k := by decide +kernel
theorem wb_pw {a b : Nat} (h : a ≤ b) : 2 ^ b = 2 ^ a * 2 ^ (b - a) := by rw [← Nat.pow_add]; congr 1; omega
theorem wb_lt2 {a b : Nat} (h : a < b) : 2 ^ a < 2 ^ b := Nat.pow_lt_pow_right (by decide) h
theorem wb_mod (n : Nat) : lN n = lN (n % 2 ^ 64) := wb_inj (by rw [wb_tb, wb_tb]; apply BitVec.eq_of_toNat_eq; rw [BitVec.toNat_ofNat, BitVec.toNat_ofNat, Nat.mod_mod])
theorem wb_shr {n k : Nat} (hn : n < 2 ^ 64) (hk : k < 64) : ((lN n).toUInt64 >>> ((nI k).toInt64.toUInt64 &&& Int64.toUInt64 63)).toInt64 = lN (n / 2 ^ k) := by
  rw [wb_cu k hk]
  apply wb_inj
  apply BitVec.eq_of_toNat_eq
  show ((lN n).toUInt64 >>> UInt64.ofNat k).toNat = (BitVec.ofNat 64 _).toNat
  have h1 : (UInt64.ofNat k).toNat = k := by
    show (BitVec.ofNat 64 k).toNat = k
    rw [BitVec.toNat_ofNat, Nat.mod_eq_of_lt (by omega)]
  have h2 : (lN n).toUInt64.toNat = n := wb_tn hn
  rw [UInt64.toNat_shiftRight, h1, h2, Nat.mod_eq_of_lt hk, Nat.shiftRight_eq_div_pow, BitVec.toNat_ofNat, Nat.mod_eq_of_lt (Nat.lt_of_le_of_lt (Nat.div_le_self _ _) hn)]
theorem wb_shl (n : Nat) {k : Nat} (hk : k < 64) : lN n <<< ((nI k).toInt64 &&& 63) = lN (n * 2 ^ k) := by
  rw [wb_c k hk]
  apply wb_inj
  rw [Int64.toBitVec_shiftLeft, wb_tb, wb_tb, wb_tb, wb_sm k hk]
  apply BitVec.eq_of_toNat_eq
  rw [BitVec.shiftLeft_eq', BitVec.toNat_shiftLeft, BitVec.toNat_ofNat, BitVec.toNat_ofNat, BitVec.toNat_ofNat, Nat.mod_eq_of_lt (show k < 2 ^ 64 by omega), Nat.shiftLeft_eq, Nat.mul_mod, Nat.mod_mod, ← Nat.mul_mod]
theorem wb_and {a b : Nat} (ha : a < 2 ^ 64) (hb : b < 2 ^ 64) : lN a &&& lN b = lN (a &&& b) := by
  apply wb_inj
  rw [Int64.toBitVec_and, wb_tb, wb_tb, wb_tb]
  apply BitVec.eq_of_toNat_eq
  rw [BitVec.toNat_and, BitVec.toNat_ofNat, BitVec.toNat_ofNat, BitVec.toNat_ofNat, Nat.mod_eq_of_lt ha, Nat.mod_eq_of_lt hb, Nat.mod_eq_of_lt (Nat.and_lt_two_pow _ hb)]
theorem wb_or {a b : Nat} (ha : a < 2 ^ 64) (hb : b < 2 ^ 64) : lN a ||| lN b = lN (a ||| b) := by
  apply wb_inj
  rw [Int64.toBitVec_or, wb_tb, wb_tb, wb_tb]
  apply BitVec.eq_of_toNat_eq
  rw [BitVec.toNat_or, BitVec.toNat_ofNat, BitVec.toNat_ofNat, BitVec.toNat_ofNat, Nat.mod_eq_of_lt ha, Nat.mod_eq_of_lt hb, Nat.mod_eq_of_lt (Nat.or_lt_two_pow ha hb)]
theorem wb_mask {n k : Nat} (hn : n < 2 ^ 64) (hk : k < 64) : lN n &&& lN (2 ^ k - 1) = lN (n % 2 ^ k) := by
  rw [wb_and hn (by have := wb_lt2 hk; omega), Nat.and_two_pow_sub_one_eq_mod]
theorem wb_a1 {n : Nat} (hn : n < 2 ^ 64) : lN n &&& 1 = lN (n % 2) := wb_mask (k := 1) hn (by decide)
theorem wb_bit {n k : Nat} (hn : n < 2 ^ 64) (hk : k < 64) : ((lN n).toUInt64 >>> ((nI k).toInt64.toUInt64 &&& Int64.toUInt64 63)).toInt64 &&& 1 = lN (n / 2 ^ k % 2) := by
  rw [wb_shr hn hk, wb_a1 (Nat.lt_of_le_of_lt (Nat.div_le_self _ _) hn)]
/-! ===== lN to 2^62 under >> and >>> ===== -/
theorem pf_lI {a : Nat} (h : a < 2 ^ 63) : (lN a).toInt = (a : Int) := lg_ofNat_toInt h
theorem pf_shr {a d : Nat} {D : Int64} (hD : (D.toBitVec.smod 64).toNat = d) (h : a < 2 ^ 62) : lN a >>> D = lN (a / 2 ^ d) := by
  have hd : a / 2 ^ d ≤ a := Nat.div_le_self _ _
  apply Int64.toInt_inj.mp
  have e : (lN a >>> D).toInt = (lN a).toInt >>> d := by
    rw [← hD]
    exact BitVec.toInt_sshiftRight ..
  rw [e, Int.shiftRight_eq_div_pow, pf_lI (by omega), pf_lI (by omega)]
  rfl
/-! HASH, and the numbers -/
def bm_step (h v : Int64) : Int64 := ((h ^^^ v) * 6364136223846793005 + 1442695040888963407) ^^^ (((h ^^^ v) * 6364136223846793005 + 1442695040888963407).toUInt64 >>> ((29 : Int32).toInt64.toUInt64 &&& Int64.toUInt64 63)).toInt64
def bm_end (h : Int64) : Int64 := h &&& 576460752303423487
def bm_h2 (v w : Int64) : Int64 := bm_end (bm_step (bm_step 7 v) w)
def bm_h3 (u v w : Int64) : Int64 := bm_end (bm_step (bm_step (bm_step 7 u) v) w)
/-- a coin's number -/
def bm_hc (d : Int64) (f : Nat → Int64) : Int64 := bm_end (bm_step (bm_step (bm_step (bm_step (bm_step 7 d) (f 0)) (f 1)) (f 2)) (f 3))
theorem bm_end_n (h : Int64) : ∃ n, n < 2 ^ 59 ∧ bm_end h = lN n := by
  obtain ⟨n, hn, rfl⟩ := wb_of h
  exact ⟨n % 2 ^ 59, Nat.mod_lt _ (by decide), wb_mask (k := 59) hn (by decide)⟩
/-- bit i of x -/
def bm_one (x : Int64) (i : Int32) : Int32 := if (x >>> (i.toInt64 &&& 63)) &&& 1 = 1 then 1 else 0
theorem bm_sh : ∀ k, k < 64 → (((nI k).toInt64 &&& 63).toBitVec.smod 64).toNat = k := by decide +kernel
theorem bm_one_n {n k : Nat} (hn : n < 2 ^ 62) (hk : k < 64) : bm_one (lN n) (nI k) = if n / 2 ^ k % 2 = 1 then 1 else 0 := by
  unfold bm_one
  rw [pf_shr (bm_sh k hk) hn, wb_a1 (Nat.lt_of_le_of_lt (Nat.div_le_self _ _) (by omega))]
  have h2 : n / 2 ^ k % 2 < 2 := Nat.mod_lt _ (by decide)
  have e : (lN (n / 2 ^ k % 2) = 1) = (n / 2 ^ k % 2 = 1) := propext (by
    have := pk_lEQ (a := n / 2 ^ k % 2) (b := 1) (by omega) (by decide)
    exact this)
  simp only [e]
theorem bm_inc (i : Nat) : nI i + Int32.ofInt 1 = nI (i + 1) := nI_1 i
end
section
theorem bm_neg_T {a : Nat} (ha : a < 2 ^ 62) : (-(lN a)).toInt = -(a : Int) := by
  rw [Int64.toInt_neg, pk_lT (by omega)]
  exact Int.bmod_eq_of_le (by omega) (by omega)
theorem bm_neg_div {a b : Nat} (ha : a < 2 ^ 62) (h0 : 0 < b) (hb : b < 2 ^ 62) : -(lN a) / lN b = -(lN (a / b)) := by
  apply Int64.toInt_inj.mp
  have hne : lN b ≠ -1 := fun z => by
    have h1 := congrArg Int64.toInt z
    rw [pk_lT (by omega)] at h1
    have h2 : (-1 : Int64).toInt = -1 := by decide
    omega
  rw [Int64.toInt_div_of_ne_right _ _ hne, bm_neg_T ha, pk_lT (by omega), Int.neg_tdiv, bm_neg_T (Nat.lt_of_le_of_lt (Nat.div_le_self a b) ha)]
  rfl
theorem bm_neg_rem {a b : Nat} (ha : a < 2 ^ 62) (h0 : 0 < b) (hb : b < 2 ^ 62) : -(lN a) - -(lN a) / lN b * lN b = -(lN (a % b)) := by
  rw [bm_neg_div ha h0 hb]
  have e : lN a = lN (a / b) * lN b + lN (a % b) := by
    rw [lN_mul, lN_add]
    exact congrArg lN (Nat.div_add_mod' a b).symm
  rw [e]
  generalize lN (a / b) = X
  generalize lN b = Y
  generalize lN (a % b) = Z
  grind
theorem bm_sub_neg {x y : Nat} (h : y < x) : lN y - lN x = -(lN (x - y)) := by
  rw [← lN_sub (Nat.le_of_lt h)]
  grind
theorem bm_fm_eq {q x y u : Nat} (hq : 0 < q) (hu : u < q) (h : (x + u) % q = y % q) : bm_fm q x y = u := by
  have h1 := bm_fm_lt (x := x) (y := y) hq
  have h2 : ((x + bm_fm q x y) % q : Nat) = (x + u) % q := by rw [bm_fm_add hq, h]
  have h3 : (((bm_fm q x y : Nat) : Int) + (x : Int)) % (q : Int) = ((u : Int) + (x : Int)) % (q : Int) := by
    have h4 : (((x + bm_fm q x y) % q : Nat) : Int) = (((x + u) % q : Nat) : Int) := by rw [h2]
    rw [Int.natCast_emod, Int.natCast_emod, Int.natCast_add, Int.natCast_add] at h4
    rw [Int.add_comm, h4, Int.add_comm]
  have h5 := Int.emod_add_cancel_right (x : Int) |>.mp h3
  rw [Int.emod_eq_of_lt (by omega) (by omega), Int.emod_eq_of_lt (by omega) (by omega)] at h5
  omega
theorem bm_fm_le {q x y : Nat} (hq : 0 < q) (h : x ≤ y) : bm_fm q x y = (y - x) % q := by
  refine bm_fm_eq hq (Nat.mod_lt _ hq) ?_
  rw [Nat.add_mod_mod]
  congr 1
  omega
theorem bm_fm_gt {q x y : Nat} (hq : 0 < q) (h : y < x) : bm_fm q x y = (q - (x - y) % q) % q := by
  refine bm_fm_eq hq (Nat.mod_lt _ hq) ?_
  rw [Nat.add_mod_mod]
  have h1 := Nat.mod_lt (x - y) hq
  have h2 := Nat.div_add_mod (x - y) q
  have e : x + (q - (x - y) % q) = y + q * ((x - y) / q + 1) := by
    rw [Nat.mul_add, Nat.mul_one]
    omega
  rw [e, Nat.add_mul_mod_self_left]
/-- the reference's ((y - x) % q + q) % q -/
theorem bm_fm_model {q x y : Nat} (hq : 0 < q) (hq2 : q < 2 ^ 31) (hx : x < 2 ^ 31) (hy : y < 2 ^ 31) : (lN y - lN x - (lN y - lN x) / lN q * lN q + lN q) - (lN y - lN x - (lN y - lN x) / lN q * lN q + lN q) / lN q * lN q = lN (bm_fm q x y) := by
  by_cases h : x ≤ y
  · have h1 := Nat.mod_lt (y - x) hq
    rw [lN_sub h, pk_lRem (by omega) hq (by omega), lN_add, pk_lRem (by omega) hq (by omega), bm_fm_le hq h, Nat.add_mod_right, Nat.mod_mod]
  · have h1 := Nat.mod_lt (x - y) hq
    have e : -(lN ((x - y) % q)) + lN q = lN (q - (x - y) % q) := by
      rw [← lN_sub (Nat.le_of_lt h1)]
      grind
    rw [bm_sub_neg (by omega), bm_neg_rem (by omega) hq (by omega), e, pk_lRem (by omega) hq (by omega), bm_fm_gt hq (by omega)]
theorem bm_lN_ne {q : Nat} (h0 : 0 < q) (h : q < 2 ^ 63) : ¬ lN q = 0 := fun z => by
  have h1 := (pk_lEQ (a := q) (b := 0) h (by decide)).mp z
  omega
theorem bm_lN_le0 {k : Nat} (h : k < 2 ^ 63) (h2 : lN k ≤ 0) : k = 0 := by
  have h1 := (pk_lLE (a := k) (b := 0) h (by decide)).mp h2
  omega
theorem bm_lN_1 {k : Nat} (h : k < 2 ^ 63) (h2 : lN k = 1) : k = 1 := (pk_lEQ (a := k) (b := 1) h (by decide)).mp h2
theorem bm_lN_0 {k : Nat} (h2 : ¬ lN (k % 2) = 1) : k % 2 = 0 := by
  have h3 : k % 2 < 2 := Nat.mod_lt _ (by decide)
  have h4 : ¬ k % 2 = 1 := fun z => h2 (by rw [z]; rfl)
  omega
theorem bm_pow_z {b e q : Nat} (hq : 1 < q) : (1 : Int64) = lN (b ^ (e % 2 ^ 0) % q) := by
  rw [Nat.pow_zero, Nat.mod_one, Nat.pow_zero, Nat.mod_eq_of_lt hq]
  rfl
theorem bm_mul_lt {a b q : Nat} (ha : a < q) (hb : b < q) (hq : q < 2 ^ 31) : a * b < 2 ^ 63 := by
  have h1 : a * b ≤ 2 ^ 31 * 2 ^ 31 := Nat.mul_le_mul (by omega) (by omega)
  have h2 : (2 : Nat) ^ 31 * 2 ^ 31 < 2 ^ 63 := by decide
  omega
theorem bm_half {e i : Nat} (he : e < 2 ^ 62) : lN (e / 2 ^ i) >>> ((1 : Int32).toInt64 &&& 63) = lN (e / 2 ^ (i + 1)) := by
  have h1 : e / 2 ^ i ≤ e := Nat.div_le_self _ _
  rw [pf_shr (d := 1) (by decide) (by omega), Nat.div_div_eq_div_mul, Nat.pow_one, ← Nat.pow_succ]
end
section
/-! the four parts in their order: 'the least of those left' and 'sorted' name the same ones -/
def bm_lst (lf : Nat → Int32) (pr : Nat → Int64) : Nat → Int32
  | 0 => -1
  | j + 1 => if ¬ lf j = 0 ∧ (bm_lst lf pr j < 0 ∨ pr j < pr (bm_lst lf pr j).toNatClampNeg) then nI j else bm_lst lf pr j
theorem bm_lst_ok (lf : Nat → Int32) (pr : Nat → Int64) : ∀ n, n ≤ 6 → ((∀ j, j < n → lf j = 0) ∧ bm_lst lf pr n = -1) ∨ ∃ b, b < n ∧ ¬ lf b = 0 ∧ bm_lst lf pr n = nI b ∧ ∀ j, j < n → ¬ lf j = 0 → (pr b).toInt ≤ (pr j).toInt ∧ ((pr j).toInt = (pr b).toInt → b ≤ j) := by
  intro n
  induction n with
  | zero =>
    intro _
    exact Or.inl ⟨fun j h => absurd h (Nat.not_lt_zero j), rfl⟩
  | succ n ih =>
    intro hn
    have e : bm_lst lf pr (n + 1) = if ¬ lf n = 0 ∧ (bm_lst lf pr n < 0 ∨ pr n < pr (bm_lst lf pr n).toNatClampNeg) then nI n else bm_lst lf pr n := rfl
    rcases ih (by omega) with ⟨h0, h1⟩ | ⟨b, hb, hl, h1, h2⟩
    · by_cases hz : lf n = 0
      · refine Or.inl ⟨fun j hj => ?_, ?_⟩
        · by_cases hjn : j = n
          · rw [hjn]; exact hz
          · exact h0 j (by omega)
        · rw [e, if_neg (fun q => q.1 hz)]
          exact h1
      · refine Or.inr ⟨n, by omega, hz, ?_, fun j hj hlj => ?_⟩
        · rw [e, if_pos ⟨hz, Or.inl (by rw [h1]; decide)⟩]
        · have hjn : j = n := by
            refine Decidable.byContradiction (fun q => ?_)
            exact hlj (h0 j (by omega))
          subst hjn
          exact ⟨Int.le_refl _, fun _ => Nat.le_refl _⟩
    · have hnn : ¬ bm_lst lf pr n < 0 := by rw [h1]; exact nI_pos (by omega)
      have hcl : (bm_lst lf pr n).toNatClampNeg = b := by rw [h1]; exact nI_clamp (by omega)
      by_cases hz : ¬ lf n = 0 ∧ pr n < pr b
      · have hlt := Int64.lt_iff_toInt_lt.mp hz.2
        refine Or.inr ⟨n, by omega, hz.1, ?_, fun j hj hlj => ?_⟩
        · rw [e, if_pos ⟨hz.1, Or.inr (by rw [hcl]; exact hz.2)⟩]
        · by_cases hjn : j = n
          · subst hjn
            exact ⟨Int.le_refl _, fun _ => Nat.le_refl _⟩
          · have h3 := h2 j (by omega) hlj
            exact ⟨by omega, fun q => by omega⟩
      · refine Or.inr ⟨b, by omega, hl, ?_, fun j hj hlj => ?_⟩
        · rw [e, if_neg (fun q => hz ⟨q.1, by
            rcases q.2 with q | q
            · exact absurd q hnn
            · rw [hcl] at q; exact q⟩)]
          exact h1
        · by_cases hjn : j = n
          · subst hjn
            have h3 : ¬ pr j < pr b := fun q => hz ⟨hlj, q⟩
            rw [Int64.lt_iff_toInt_lt] at h3
            exact ⟨by omega, fun _ => by omega⟩
          · exact h2 j (by omega) hlj
/-- which are left, and which one is taken -/
def bm_lf (lf : Nat → Int32) (pr : Nat → Int64) : Nat → Nat → Int32
  | 0 => lf
  | i + 1 => upd (bm_lf lf pr i) (bm_lst (bm_lf lf pr i) pr 6).toNatClampNeg 0
def bm_or (lf : Nat → Int32) (pr : Nat → Int64) (i : Nat) : Nat := (bm_lst (bm_lf lf pr i) pr 6).toNatClampNeg
/-- i stands ahead of j -/
def bm_lx (pr : Nat → Int64) (i j : Nat) : Prop := (pr i).toInt < (pr j).toInt ∨ ((pr i).toInt = (pr j).toInt ∧ i < j)
theorem bm_or_eq {lf : Nat → Int32} {pr : Nat → Int64} {q : Nat → Nat} (hq : ∀ i, i < 4 → q i < 6) (hs : ∀ i j, i < j → j < 4 → bm_lx pr (q i) (q j)) (hl : ∀ j, j < 6 → (¬ lf j = 0 ↔ ∃ t, t < 4 ∧ j = q t)) :
    ∀ i, i ≤ 4 → (∀ j, j < 6 → (¬ bm_lf lf pr i j = 0 ↔ ∃ t, i ≤ t ∧ t < 4 ∧ j = q t)) ∧ (i < 4 → bm_lst (bm_lf lf pr i) pr 6 = nI (q i)) := by
  have key : ∀ i, (∀ j, j < 6 → (¬ bm_lf lf pr i j = 0 ↔ ∃ t, i ≤ t ∧ t < 4 ∧ j = q t)) → i < 4 → bm_lst (bm_lf lf pr i) pr 6 = nI (q i) := by
    intro i h hi
    have hqi := (h (q i) (hq i hi)).mpr ⟨i, Nat.le_refl _, hi, rfl⟩
    rcases bm_lst_ok (bm_lf lf pr i) pr 6 (Nat.le_refl _) with ⟨h0, -⟩ | ⟨b, hb, hlb, h1, h2⟩
    · exact absurd (h0 (q i) (hq i hi)) hqi
    · obtain ⟨t, ht1, ht2, ht3⟩ := (h b hb).mp hlb
      have h3 := h2 (q i) (hq i hi) hqi
      by_cases hti : t = i
      · rw [h1, ht3, hti]
      · exfalso
        have h4 := hs i t (by omega) ht2
        rw [← ht3] at h4
        rcases h4 with h4 | ⟨h4, h5⟩
        · omega
        · have := h3.2 h4
          omega
  intro i
  induction i with
  | zero =>
    intro _
    have h0 : ∀ j, j < 6 → (¬ bm_lf lf pr 0 j = 0 ↔ ∃ t, 0 ≤ t ∧ t < 4 ∧ j = q t) := fun j hj => ⟨fun z => by
      obtain ⟨t, h1, h2⟩ := (hl j hj).mp z
      exact ⟨t, Nat.zero_le _, h1, h2⟩, fun ⟨t, _, h1, h2⟩ => (hl j hj).mpr ⟨t, h1, h2⟩⟩
    exact ⟨h0, key 0 h0⟩
  | succ i ih =>
    intro hi
    obtain ⟨h1, h2⟩ := ih (by omega)
    have h3 := h2 (by omega)
    have h0 : ∀ j, j < 6 → (¬ bm_lf lf pr (i + 1) j = 0 ↔ ∃ t, i + 1 ≤ t ∧ t < 4 ∧ j = q t) := by
      intro j hj
      have hqi := hq i (by omega)
      have e : bm_lf lf pr (i + 1) j = if j = q i then 0 else bm_lf lf pr i j := by
        show upd (bm_lf lf pr i) (bm_lst (bm_lf lf pr i) pr 6).toNatClampNeg 0 j = _
        rw [h3, nI_clamp (by omega)]
        rfl
      rw [e]
      by_cases hji : j = q i
      · rw [if_pos hji]
        refine ⟨fun z => absurd rfl z, fun ⟨t, t1, t2, t3⟩ => ?_⟩
        exfalso
        have h4 := hs i t (by omega) t2
        rw [← hji, ← t3] at h4
        rcases h4 with h4 | ⟨-, h4⟩ <;> omega
      · rw [if_neg hji, h1 j hj]
        refine ⟨fun ⟨t, t1, t2, t3⟩ => ⟨t, ?_, t2, t3⟩, fun ⟨t, t1, t2, t3⟩ => ⟨t, by omega, t2, t3⟩⟩
        by_cases hti : t = i
        · rw [hti] at t3; exact absurd t3 hji
        · omega
    exact ⟨h0, key (i + 1) h0⟩
end
section
abbrev yQ_init : MethodName := { cls := "BlindMint$Proposal", name := "<init>", desc := "()V" }
abbrev cQ_init : ByteArray := prog_10_method_1_code
theorem dQ_init_0 : decode cQ_init 0 = .ok (.aload_n 0, 1) := by decide +kernel
theorem dQ_init_1 : decode cQ_init 1 = .ok (.invokespecial 3, 3) := by decide +kernel
theorem dQ_init_4 : decode cQ_init 4 = .ok (.aload_n 0, 1) := by decide +kernel
theorem dQ_init_5 : decode cQ_init 5 = .ok (.bipush 6, 2) := by decide +kernel
theorem dQ_init_7 : decode cQ_init 7 = .ok (.anewarray 9, 3) := by decide +kernel
theorem dQ_init_10 : decode cQ_init 10 = .ok (.putfield 11, 3) := by decide +kernel
theorem dQ_init_13 : decode cQ_init 13 = .ok (.aload_n 0, 1) := by decide +kernel
theorem dQ_init_14 : decode cQ_init 14 = .ok (.iconst 4, 1) := by decide +kernel
theorem dQ_init_15 : decode cQ_init 15 = .ok (.anewarray 9, 3) := by decide +kernel
theorem dQ_init_18 : decode cQ_init 18 = .ok (.putfield 17, 3) := by decide +kernel
theorem dQ_init_21 : decode cQ_init 21 = .ok (.aload_n 0, 1) := by decide +kernel
theorem dQ_init_22 : decode cQ_init 22 = .ok (.iconst 0, 1) := by decide +kernel
theorem dQ_init_23 : decode cQ_init 23 = .ok (.putfield 20, 3) := by decide +kernel
theorem dQ_init_26 : decode cQ_init 26 = .ok (.aload_n 0, 1) := by decide +kernel
theorem dQ_init_27 : decode cQ_init 27 = .ok (.iconst 0, 1) := by decide +kernel
theorem dQ_init_28 : decode cQ_init 28 = .ok (.putfield 24, 3) := by decide +kernel
theorem dQ_init_31 : decode cQ_init 31 = .ok (.iconst 0, 1) := by decide +kernel
theorem dQ_init_32 : decode cQ_init 32 = .ok (.istore_n 1, 1) := by decide +kernel
theorem dQ_init_33 : decode cQ_init 33 = .ok (.iload_n 1, 1) := by decide +kernel
theorem dQ_init_34 : decode cQ_init 34 = .ok (.bipush 6, 2) := by decide +kernel
theorem dQ_init_36 : decode cQ_init 36 = .ok (.if_icmp .ge 22, 3) := by decide +kernel
theorem dQ_init_39 : decode cQ_init 39 = .ok (.aload_n 0, 1) := by decide +kernel
theorem dQ_init_40 : decode cQ_init 40 = .ok (.getfield 11, 3) := by decide +kernel
theorem dQ_init_43 : decode cQ_init 43 = .ok (.iload_n 1, 1) := by decide +kernel
theorem dQ_init_44 : decode cQ_init 44 = .ok (.new 9, 3) := by decide +kernel
theorem dQ_init_47 : decode cQ_init 47 = .ok (.dup, 1) := by decide +kernel
theorem dQ_init_48 : decode cQ_init 48 = .ok (.invokespecial 27, 3) := by decide +kernel
theorem dQ_init_51 : decode cQ_init 51 = .ok (.aastore, 1) := by decide +kernel
theorem dQ_init_52 : decode cQ_init 52 = .ok (.iinc 1 1, 3) := by decide +kernel
theorem dQ_init_55 : decode cQ_init 55 = .ok (.goto (-22), 3) := by decide +kernel
theorem dQ_init_58 : decode cQ_init 58 = .ok (.return_, 1) := by decide +kernel
abbrev yC_init : MethodName := { cls := "BlindMint$Candidate", name := "<init>", desc := "()V" }
abbrev cC_init : ByteArray := prog_3_method_1_code
theorem dC_init_0 : decode cC_init 0 = .ok (.aload_n 0, 1) := by decide +kernel
theorem dC_init_1 : decode cC_init 1 = .ok (.invokespecial 1, 3) := by decide +kernel
theorem dC_init_4 : decode cC_init 4 = .ok (.return_, 1) := by decide +kernel
abbrev yA_init : MethodName := { cls := "BlindMint$Account", name := "<init>", desc := "()V" }
abbrev cA_init : ByteArray := prog_2_method_1_code
theorem dA_init_0 : decode cA_init 0 = .ok (.aload_n 0, 1) := by decide +kernel
theorem dA_init_1 : decode cA_init 1 = .ok (.invokespecial 3, 3) := by decide +kernel
theorem dA_init_4 : decode cA_init 4 = .ok (.aload_n 0, 1) := by decide +kernel
theorem dA_init_5 : decode cA_init 5 = .ok (.bipush 100, 2) := by decide +kernel
theorem dA_init_7 : decode cA_init 7 = .ok (.putfield 9, 3) := by decide +kernel
theorem dA_init_10 : decode cA_init 10 = .ok (.aload_n 0, 1) := by decide +kernel
theorem dA_init_11 : decode cA_init 11 = .ok (.bipush 8, 2) := by decide +kernel
theorem dA_init_13 : decode cA_init 13 = .ok (.anewarray 15, 3) := by decide +kernel
theorem dA_init_16 : decode cA_init 16 = .ok (.putfield 17, 3) := by decide +kernel
theorem dA_init_19 : decode cA_init 19 = .ok (.aload_n 0, 1) := by decide +kernel
theorem dA_init_20 : decode cA_init 20 = .ok (.iconst 0, 1) := by decide +kernel
theorem dA_init_21 : decode cA_init 21 = .ok (.putfield 21, 3) := by decide +kernel
theorem dA_init_24 : decode cA_init 24 = .ok (.return_, 1) := by decide +kernel
abbrev yP_denomination : MethodName := { cls := "BlindMint$Payment", name := "denomination", desc := "()J" }
abbrev cP_denomination : ByteArray := prog_9_method_3_code
theorem dP_denomination_0 : decode cP_denomination 0 = .ok (.aload_n 0, 1) := by decide +kernel
theorem dP_denomination_1 : decode cP_denomination 1 = .ok (.getfield 11, 3) := by decide +kernel
theorem dP_denomination_4 : decode cP_denomination 4 = .ok (.iconst 0, 1) := by decide +kernel
theorem dP_denomination_5 : decode cP_denomination 5 = .ok (.laload, 1) := by decide +kernel
theorem dP_denomination_6 : decode cP_denomination 6 = .ok (.lreturn, 1) := by decide +kernel
abbrev yP_readPairHashes : MethodName := { cls := "BlindMint$Payment", name := "readPairHashes", desc := "([J)V" }
abbrev cP_readPairHashes : ByteArray := prog_9_method_7_code
theorem dP_readPairHashes_0 : decode cP_readPairHashes 0 = .ok (.aload_n 0, 1) := by decide +kernel
theorem dP_readPairHashes_1 : decode cP_readPairHashes 1 = .ok (.invokevirtual 25, 3) := by decide +kernel
theorem dP_readPairHashes_4 : decode cP_readPairHashes 4 = .ok (.lstore_n 2, 1) := by decide +kernel
theorem dP_readPairHashes_5 : decode cP_readPairHashes 5 = .ok (.iconst 0, 1) := by decide +kernel
theorem dP_readPairHashes_6 : decode cP_readPairHashes 6 = .ok (.istore 4, 2) := by decide +kernel
theorem dP_readPairHashes_8 : decode cP_readPairHashes 8 = .ok (.iload 4, 2) := by decide +kernel
theorem dP_readPairHashes_10 : decode cP_readPairHashes 10 = .ok (.iconst 4, 1) := by decide +kernel
theorem dP_readPairHashes_11 : decode cP_readPairHashes 11 = .ok (.if_icmp .ge 78, 3) := by decide +kernel
theorem dP_readPairHashes_14 : decode cP_readPairHashes 14 = .ok (.iload 4, 2) := by decide +kernel
theorem dP_readPairHashes_16 : decode cP_readPairHashes 16 = .ok (.invokestatic 39, 3) := by decide +kernel
theorem dP_readPairHashes_19 : decode cP_readPairHashes 19 = .ok (.istore 5, 2) := by decide +kernel
theorem dP_readPairHashes_21 : decode cP_readPairHashes 21 = .ok (.aload_n 0, 1) := by decide +kernel
theorem dP_readPairHashes_22 : decode cP_readPairHashes 22 = .ok (.getfield 11, 3) := by decide +kernel
theorem dP_readPairHashes_25 : decode cP_readPairHashes 25 = .ok (.iload 5, 2) := by decide +kernel
theorem dP_readPairHashes_27 : decode cP_readPairHashes 27 = .ok (.laload, 1) := by decide +kernel
theorem dP_readPairHashes_28 : decode cP_readPairHashes 28 = .ok (.aload_n 0, 1) := by decide +kernel
theorem dP_readPairHashes_29 : decode cP_readPairHashes 29 = .ok (.getfield 11, 3) := by decide +kernel
theorem dP_readPairHashes_32 : decode cP_readPairHashes 32 = .ok (.iload 5, 2) := by decide +kernel
theorem dP_readPairHashes_34 : decode cP_readPairHashes 34 = .ok (.iconst 1, 1) := by decide +kernel
theorem dP_readPairHashes_35 : decode cP_readPairHashes 35 = .ok (.iadd, 1) := by decide +kernel
theorem dP_readPairHashes_36 : decode cP_readPairHashes 36 = .ok (.laload, 1) := by decide +kernel
theorem dP_readPairHashes_37 : decode cP_readPairHashes 37 = .ok (.invokestatic 61, 3) := by decide +kernel
theorem dP_readPairHashes_40 : decode cP_readPairHashes 40 = .ok (.lstore 6, 2) := by decide +kernel
theorem dP_readPairHashes_42 : decode cP_readPairHashes 42 = .ok (.aload_n 0, 1) := by decide +kernel
theorem dP_readPairHashes_43 : decode cP_readPairHashes 43 = .ok (.getfield 11, 3) := by decide +kernel
theorem dP_readPairHashes_46 : decode cP_readPairHashes 46 = .ok (.iload 5, 2) := by decide +kernel
theorem dP_readPairHashes_48 : decode cP_readPairHashes 48 = .ok (.iconst 2, 1) := by decide +kernel
theorem dP_readPairHashes_49 : decode cP_readPairHashes 49 = .ok (.iadd, 1) := by decide +kernel
theorem dP_readPairHashes_50 : decode cP_readPairHashes 50 = .ok (.laload, 1) := by decide +kernel
theorem dP_readPairHashes_51 : decode cP_readPairHashes 51 = .ok (.lstore 8, 2) := by decide +kernel
theorem dP_readPairHashes_53 : decode cP_readPairHashes 53 = .ok (.aload_n 1, 1) := by decide +kernel
theorem dP_readPairHashes_54 : decode cP_readPairHashes 54 = .ok (.iload 4, 2) := by decide +kernel
theorem dP_readPairHashes_56 : decode cP_readPairHashes 56 = .ok (.lload_n 2, 1) := by decide +kernel
theorem dP_readPairHashes_57 : decode cP_readPairHashes 57 = .ok (.iload 4, 2) := by decide +kernel
theorem dP_readPairHashes_59 : decode cP_readPairHashes 59 = .ok (.invokestatic 29, 3) := by decide +kernel
theorem dP_readPairHashes_62 : decode cP_readPairHashes 62 = .ok (.ifCond .eq 13, 3) := by decide +kernel
theorem dP_readPairHashes_65 : decode cP_readPairHashes 65 = .ok (.lload 6, 2) := by decide +kernel
theorem dP_readPairHashes_67 : decode cP_readPairHashes 67 = .ok (.lload 8, 2) := by decide +kernel
theorem dP_readPairHashes_69 : decode cP_readPairHashes 69 = .ok (.invokestatic 61, 3) := by decide +kernel
theorem dP_readPairHashes_72 : decode cP_readPairHashes 72 = .ok (.goto 10, 3) := by decide +kernel
theorem dP_readPairHashes_75 : decode cP_readPairHashes 75 = .ok (.lload 8, 2) := by decide +kernel
theorem dP_readPairHashes_77 : decode cP_readPairHashes 77 = .ok (.lload 6, 2) := by decide +kernel
theorem dP_readPairHashes_79 : decode cP_readPairHashes 79 = .ok (.invokestatic 61, 3) := by decide +kernel
theorem dP_readPairHashes_82 : decode cP_readPairHashes 82 = .ok (.lastore, 1) := by decide +kernel
theorem dP_readPairHashes_83 : decode cP_readPairHashes 83 = .ok (.iinc 4 1, 3) := by decide +kernel
theorem dP_readPairHashes_86 : decode cP_readPairHashes 86 = .ok (.goto (-78), 3) := by decide +kernel
theorem dP_readPairHashes_89 : decode cP_readPairHashes 89 = .ok (.return_, 1) := by decide +kernel
abbrev yP_challenge : MethodName := { cls := "BlindMint$Payment", name := "challenge", desc := "()J" }
abbrev cP_challenge : ByteArray := prog_9_method_5_code
theorem dP_challenge_0 : decode cP_challenge 0 = .ok (.ldc2_w 51, 3) := by decide +kernel
theorem dP_challenge_3 : decode cP_challenge 3 = .ok (.aload_n 0, 1) := by decide +kernel
theorem dP_challenge_4 : decode cP_challenge 4 = .ok (.getfield 11, 3) := by decide +kernel
theorem dP_challenge_7 : decode cP_challenge 7 = .ok (.iconst 2, 1) := by decide +kernel
theorem dP_challenge_8 : decode cP_challenge 8 = .ok (.laload, 1) := by decide +kernel
theorem dP_challenge_9 : decode cP_challenge 9 = .ok (.invokestatic 53, 3) := by decide +kernel
theorem dP_challenge_12 : decode cP_challenge 12 = .ok (.lstore_n 1, 1) := by decide +kernel
theorem dP_challenge_13 : decode cP_challenge 13 = .ok (.lload_n 1, 1) := by decide +kernel
theorem dP_challenge_14 : decode cP_challenge 14 = .ok (.aload_n 0, 1) := by decide +kernel
theorem dP_challenge_15 : decode cP_challenge 15 = .ok (.getfield 11, 3) := by decide +kernel
theorem dP_challenge_18 : decode cP_challenge 18 = .ok (.iconst 3, 1) := by decide +kernel
theorem dP_challenge_19 : decode cP_challenge 19 = .ok (.laload, 1) := by decide +kernel
theorem dP_challenge_20 : decode cP_challenge 20 = .ok (.invokestatic 53, 3) := by decide +kernel
theorem dP_challenge_23 : decode cP_challenge 23 = .ok (.aload_n 0, 1) := by decide +kernel
theorem dP_challenge_24 : decode cP_challenge 24 = .ok (.getfield 11, 3) := by decide +kernel
theorem dP_challenge_27 : decode cP_challenge 27 = .ok (.iconst 1, 1) := by decide +kernel
theorem dP_challenge_28 : decode cP_challenge 28 = .ok (.laload, 1) := by decide +kernel
theorem dP_challenge_29 : decode cP_challenge 29 = .ok (.invokestatic 53, 3) := by decide +kernel
theorem dP_challenge_32 : decode cP_challenge 32 = .ok (.invokestatic 57, 3) := by decide +kernel
theorem dP_challenge_35 : decode cP_challenge 35 = .ok (.lreturn, 1) := by decide +kernel
abbrev yH_step : MethodName := { cls := "BlindMint$Hash", name := "step", desc := "(JJ)J" }
abbrev cH_step : ByteArray := prog_8_method_2_code
theorem dH_step_0 : decode cH_step 0 = .ok (.lload_n 0, 1) := by decide +kernel
theorem dH_step_1 : decode cH_step 1 = .ok (.lload_n 2, 1) := by decide +kernel
theorem dH_step_2 : decode cH_step 2 = .ok (.lxor, 1) := by decide +kernel
theorem dH_step_3 : decode cH_step 3 = .ok (.ldc2_w 9, 3) := by decide +kernel
theorem dH_step_6 : decode cH_step 6 = .ok (.lmul, 1) := by decide +kernel
theorem dH_step_7 : decode cH_step 7 = .ok (.ldc2_w 11, 3) := by decide +kernel
theorem dH_step_10 : decode cH_step 10 = .ok (.ladd, 1) := by decide +kernel
theorem dH_step_11 : decode cH_step 11 = .ok (.lstore 4, 2) := by decide +kernel
theorem dH_step_13 : decode cH_step 13 = .ok (.lload 4, 2) := by decide +kernel
theorem dH_step_15 : decode cH_step 15 = .ok (.lload 4, 2) := by decide +kernel
theorem dH_step_17 : decode cH_step 17 = .ok (.bipush 29, 2) := by decide +kernel
theorem dH_step_19 : decode cH_step 19 = .ok (.lushr, 1) := by decide +kernel
theorem dH_step_20 : decode cH_step 20 = .ok (.lxor, 1) := by decide +kernel
theorem dH_step_21 : decode cH_step 21 = .ok (.lreturn, 1) := by decide +kernel
abbrev yH_end : MethodName := { cls := "BlindMint$Hash", name := "end", desc := "(J)J" }
abbrev cH_end : ByteArray := prog_8_method_3_code
theorem dH_end_0 : decode cH_end 0 = .ok (.lload_n 0, 1) := by decide +kernel
theorem dH_end_1 : decode cH_end 1 = .ok (.ldc2_w 13, 3) := by decide +kernel
theorem dH_end_4 : decode cH_end 4 = .ok (.land, 1) := by decide +kernel
theorem dH_end_5 : decode cH_end 5 = .ok (.lreturn, 1) := by decide +kernel
abbrev yP_firstOfPart : MethodName := { cls := "BlindMint$Payment", name := "firstOfPart", desc := "(I)I" }
abbrev cP_firstOfPart : ByteArray := prog_9_method_8_code
theorem dP_firstOfPart_0 : decode cP_firstOfPart 0 = .ok (.iconst 4, 1) := by decide +kernel
theorem dP_firstOfPart_1 : decode cP_firstOfPart 1 = .ok (.iload_n 0, 1) := by decide +kernel
theorem dP_firstOfPart_2 : decode cP_firstOfPart 2 = .ok (.iconst 3, 1) := by decide +kernel
theorem dP_firstOfPart_3 : decode cP_firstOfPart 3 = .ok (.imul, 1) := by decide +kernel
theorem dP_firstOfPart_4 : decode cP_firstOfPart 4 = .ok (.iadd, 1) := by decide +kernel
theorem dP_firstOfPart_5 : decode cP_firstOfPart 5 = .ok (.ireturn, 1) := by decide +kernel
abbrev yH_of : MethodName := { cls := "BlindMint$Hash", name := "of", desc := "(JJ)J" }
abbrev cH_of : ByteArray := prog_8_method_4_code
theorem dH_of_0 : decode cH_of 0 = .ok (.ldc2_w 15, 3) := by decide +kernel
theorem dH_of_3 : decode cH_of 3 = .ok (.lload_n 0, 1) := by decide +kernel
theorem dH_of_4 : decode cH_of 4 = .ok (.invokestatic 17, 3) := by decide +kernel
theorem dH_of_7 : decode cH_of 7 = .ok (.lload_n 2, 1) := by decide +kernel
theorem dH_of_8 : decode cH_of 8 = .ok (.invokestatic 17, 3) := by decide +kernel
theorem dH_of_11 : decode cH_of 11 = .ok (.invokestatic 21, 3) := by decide +kernel
theorem dH_of_14 : decode cH_of 14 = .ok (.lreturn, 1) := by decide +kernel
abbrev yH_ofCoin : MethodName := { cls := "BlindMint$Hash", name := "ofCoin", desc := "(J[J)J" }
abbrev cH_ofCoin : ByteArray := prog_8_method_5_code
theorem dH_ofCoin_0 : decode cH_ofCoin 0 = .ok (.ldc2_w 15, 3) := by decide +kernel
theorem dH_ofCoin_3 : decode cH_ofCoin 3 = .ok (.lload_n 0, 1) := by decide +kernel
theorem dH_ofCoin_4 : decode cH_ofCoin 4 = .ok (.invokestatic 17, 3) := by decide +kernel
theorem dH_ofCoin_7 : decode cH_ofCoin 7 = .ok (.lstore_n 3, 1) := by decide +kernel
theorem dH_ofCoin_8 : decode cH_ofCoin 8 = .ok (.aload_n 2, 1) := by decide +kernel
theorem dH_ofCoin_9 : decode cH_ofCoin 9 = .ok (.astore 5, 2) := by decide +kernel
theorem dH_ofCoin_11 : decode cH_ofCoin 11 = .ok (.aload 5, 2) := by decide +kernel
theorem dH_ofCoin_13 : decode cH_ofCoin 13 = .ok (.arraylength, 1) := by decide +kernel
theorem dH_ofCoin_14 : decode cH_ofCoin 14 = .ok (.istore 6, 2) := by decide +kernel
theorem dH_ofCoin_16 : decode cH_ofCoin 16 = .ok (.iconst 0, 1) := by decide +kernel
theorem dH_ofCoin_17 : decode cH_ofCoin 17 = .ok (.istore 7, 2) := by decide +kernel
theorem dH_ofCoin_19 : decode cH_ofCoin 19 = .ok (.iload 7, 2) := by decide +kernel
theorem dH_ofCoin_21 : decode cH_ofCoin 21 = .ok (.iload 6, 2) := by decide +kernel
theorem dH_ofCoin_23 : decode cH_ofCoin 23 = .ok (.if_icmp .ge 23, 3) := by decide +kernel
theorem dH_ofCoin_26 : decode cH_ofCoin 26 = .ok (.aload 5, 2) := by decide +kernel
theorem dH_ofCoin_28 : decode cH_ofCoin 28 = .ok (.iload 7, 2) := by decide +kernel
theorem dH_ofCoin_30 : decode cH_ofCoin 30 = .ok (.laload, 1) := by decide +kernel
theorem dH_ofCoin_31 : decode cH_ofCoin 31 = .ok (.lstore 8, 2) := by decide +kernel
theorem dH_ofCoin_33 : decode cH_ofCoin 33 = .ok (.lload_n 3, 1) := by decide +kernel
theorem dH_ofCoin_34 : decode cH_ofCoin 34 = .ok (.lload 8, 2) := by decide +kernel
theorem dH_ofCoin_36 : decode cH_ofCoin 36 = .ok (.invokestatic 17, 3) := by decide +kernel
theorem dH_ofCoin_39 : decode cH_ofCoin 39 = .ok (.lstore_n 3, 1) := by decide +kernel
theorem dH_ofCoin_40 : decode cH_ofCoin 40 = .ok (.iinc 7 1, 3) := by decide +kernel
theorem dH_ofCoin_43 : decode cH_ofCoin 43 = .ok (.goto (-24), 3) := by decide +kernel
theorem dH_ofCoin_46 : decode cH_ofCoin 46 = .ok (.lload_n 3, 1) := by decide +kernel
theorem dH_ofCoin_47 : decode cH_ofCoin 47 = .ok (.invokestatic 21, 3) := by decide +kernel
theorem dH_ofCoin_50 : decode cH_ofCoin 50 = .ok (.lreturn, 1) := by decide +kernel
abbrev yP_signatureNumber : MethodName := { cls := "BlindMint$Payment", name := "signatureNumber", desc := "()J" }
abbrev cP_signatureNumber : ByteArray := prog_9_method_4_code
theorem dP_signatureNumber_0 : decode cP_signatureNumber 0 = .ok (.aload_n 0, 1) := by decide +kernel
theorem dP_signatureNumber_1 : decode cP_signatureNumber 1 = .ok (.getfield 11, 3) := by decide +kernel
theorem dP_signatureNumber_4 : decode cP_signatureNumber 4 = .ok (.iconst 1, 1) := by decide +kernel
theorem dP_signatureNumber_5 : decode cP_signatureNumber 5 = .ok (.laload, 1) := by decide +kernel
theorem dP_signatureNumber_6 : decode cP_signatureNumber 6 = .ok (.lreturn, 1) := by decide +kernel
abbrev yD_isSignature : MethodName := { cls := "BlindMint$Denomination", name := "isSignature", desc := "(JJ)Z" }
abbrev cD_isSignature : ByteArray := prog_6_method_8_code
theorem dD_isSignature_0 : decode cD_isSignature 0 = .ok (.lload_n 1, 1) := by decide +kernel
theorem dD_isSignature_1 : decode cD_isSignature 1 = .ok (.lconst 0, 1) := by decide +kernel
theorem dD_isSignature_2 : decode cD_isSignature 2 = .ok (.lcmp, 1) := by decide +kernel
theorem dD_isSignature_3 : decode cD_isSignature 3 = .ok (.ifCond .lt 63, 3) := by decide +kernel
theorem dD_isSignature_6 : decode cD_isSignature 6 = .ok (.lload_n 1, 1) := by decide +kernel
theorem dD_isSignature_7 : decode cD_isSignature 7 = .ok (.aload_n 0, 1) := by decide +kernel
theorem dD_isSignature_8 : decode cD_isSignature 8 = .ok (.getfield 36, 3) := by decide +kernel
theorem dD_isSignature_11 : decode cD_isSignature 11 = .ok (.aload_n 0, 1) := by decide +kernel
theorem dD_isSignature_12 : decode cD_isSignature 12 = .ok (.getfield 40, 3) := by decide +kernel
theorem dD_isSignature_15 : decode cD_isSignature 15 = .ok (.lmul, 1) := by decide +kernel
theorem dD_isSignature_16 : decode cD_isSignature 16 = .ok (.lcmp, 1) := by decide +kernel
theorem dD_isSignature_17 : decode cD_isSignature 17 = .ok (.ifCond .ge 49, 3) := by decide +kernel
theorem dD_isSignature_20 : decode cD_isSignature 20 = .ok (.lload_n 1, 1) := by decide +kernel
theorem dD_isSignature_21 : decode cD_isSignature 21 = .ok (.ldc2_w 43, 3) := by decide +kernel
theorem dD_isSignature_24 : decode cD_isSignature 24 = .ok (.aload_n 0, 1) := by decide +kernel
theorem dD_isSignature_25 : decode cD_isSignature 25 = .ok (.getfield 36, 3) := by decide +kernel
theorem dD_isSignature_28 : decode cD_isSignature 28 = .ok (.invokestatic 45, 3) := by decide +kernel
theorem dD_isSignature_31 : decode cD_isSignature 31 = .ok (.lload_n 3, 1) := by decide +kernel
theorem dD_isSignature_32 : decode cD_isSignature 32 = .ok (.aload_n 0, 1) := by decide +kernel
theorem dD_isSignature_33 : decode cD_isSignature 33 = .ok (.getfield 36, 3) := by decide +kernel
theorem dD_isSignature_36 : decode cD_isSignature 36 = .ok (.lrem, 1) := by decide +kernel
theorem dD_isSignature_37 : decode cD_isSignature 37 = .ok (.lcmp, 1) := by decide +kernel
theorem dD_isSignature_38 : decode cD_isSignature 38 = .ok (.ifCond .ne 28, 3) := by decide +kernel
theorem dD_isSignature_41 : decode cD_isSignature 41 = .ok (.lload_n 1, 1) := by decide +kernel
theorem dD_isSignature_42 : decode cD_isSignature 42 = .ok (.ldc2_w 43, 3) := by decide +kernel
theorem dD_isSignature_45 : decode cD_isSignature 45 = .ok (.aload_n 0, 1) := by decide +kernel
theorem dD_isSignature_46 : decode cD_isSignature 46 = .ok (.getfield 40, 3) := by decide +kernel
theorem dD_isSignature_49 : decode cD_isSignature 49 = .ok (.invokestatic 45, 3) := by decide +kernel
theorem dD_isSignature_52 : decode cD_isSignature 52 = .ok (.lload_n 3, 1) := by decide +kernel
theorem dD_isSignature_53 : decode cD_isSignature 53 = .ok (.aload_n 0, 1) := by decide +kernel
theorem dD_isSignature_54 : decode cD_isSignature 54 = .ok (.getfield 40, 3) := by decide +kernel
theorem dD_isSignature_57 : decode cD_isSignature 57 = .ok (.lrem, 1) := by decide +kernel
theorem dD_isSignature_58 : decode cD_isSignature 58 = .ok (.lcmp, 1) := by decide +kernel
theorem dD_isSignature_59 : decode cD_isSignature 59 = .ok (.ifCond .ne 7, 3) := by decide +kernel
theorem dD_isSignature_62 : decode cD_isSignature 62 = .ok (.iconst 1, 1) := by decide +kernel
theorem dD_isSignature_63 : decode cD_isSignature 63 = .ok (.goto 4, 3) := by decide +kernel
theorem dD_isSignature_66 : decode cD_isSignature 66 = .ok (.iconst 0, 1) := by decide +kernel
theorem dD_isSignature_67 : decode cD_isSignature 67 = .ok (.ireturn, 1) := by decide +kernel
abbrev yF_power : MethodName := { cls := "BlindMint$Field", name := "power", desc := "(JJJ)J" }
abbrev cF_power : ByteArray := prog_7_method_3_code
theorem dF_power_0 : decode cF_power 0 = .ok (.lload_n 0, 1) := by decide +kernel
theorem dF_power_1 : decode cF_power 1 = .ok (.lload 4, 2) := by decide +kernel
theorem dF_power_3 : decode cF_power 3 = .ok (.lrem, 1) := by decide +kernel
theorem dF_power_4 : decode cF_power 4 = .ok (.lstore 6, 2) := by decide +kernel
theorem dF_power_6 : decode cF_power 6 = .ok (.lconst 1, 1) := by decide +kernel
theorem dF_power_7 : decode cF_power 7 = .ok (.lstore 8, 2) := by decide +kernel
theorem dF_power_9 : decode cF_power 9 = .ok (.iconst 0, 1) := by decide +kernel
theorem dF_power_10 : decode cF_power 10 = .ok (.istore 10, 2) := by decide +kernel
theorem dF_power_12 : decode cF_power 12 = .ok (.iload 10, 2) := by decide +kernel
theorem dF_power_14 : decode cF_power 14 = .ok (.bipush 30, 2) := by decide +kernel
theorem dF_power_16 : decode cF_power 16 = .ok (.if_icmp .ge 38, 3) := by decide +kernel
theorem dF_power_19 : decode cF_power 19 = .ok (.lload_n 2, 1) := by decide +kernel
theorem dF_power_20 : decode cF_power 20 = .ok (.iload 10, 2) := by decide +kernel
theorem dF_power_22 : decode cF_power 22 = .ok (.invokestatic 9, 3) := by decide +kernel
theorem dF_power_25 : decode cF_power 25 = .ok (.ifCond .eq 13, 3) := by decide +kernel
theorem dF_power_28 : decode cF_power 28 = .ok (.lload 8, 2) := by decide +kernel
theorem dF_power_30 : decode cF_power 30 = .ok (.lload 6, 2) := by decide +kernel
theorem dF_power_32 : decode cF_power 32 = .ok (.lmul, 1) := by decide +kernel
theorem dF_power_33 : decode cF_power 33 = .ok (.lload 4, 2) := by decide +kernel
theorem dF_power_35 : decode cF_power 35 = .ok (.lrem, 1) := by decide +kernel
theorem dF_power_36 : decode cF_power 36 = .ok (.lstore 8, 2) := by decide +kernel
theorem dF_power_38 : decode cF_power 38 = .ok (.lload 6, 2) := by decide +kernel
theorem dF_power_40 : decode cF_power 40 = .ok (.lload 6, 2) := by decide +kernel
theorem dF_power_42 : decode cF_power 42 = .ok (.lmul, 1) := by decide +kernel
theorem dF_power_43 : decode cF_power 43 = .ok (.lload 4, 2) := by decide +kernel
theorem dF_power_45 : decode cF_power 45 = .ok (.lrem, 1) := by decide +kernel
theorem dF_power_46 : decode cF_power 46 = .ok (.lstore 6, 2) := by decide +kernel
theorem dF_power_48 : decode cF_power 48 = .ok (.iinc 10 1, 3) := by decide +kernel
theorem dF_power_51 : decode cF_power 51 = .ok (.goto (-39), 3) := by decide +kernel
theorem dF_power_54 : decode cF_power 54 = .ok (.lload 8, 2) := by decide +kernel
theorem dF_power_56 : decode cF_power 56 = .ok (.lreturn, 1) := by decide +kernel
abbrev yA_isWalletFull : MethodName := { cls := "BlindMint$Account", name := "isWalletFull", desc := "()Z" }
abbrev cA_isWalletFull : ByteArray := prog_2_method_2_code
theorem dA_isWalletFull_0 : decode cA_isWalletFull 0 = .ok (.aload_n 0, 1) := by decide +kernel
theorem dA_isWalletFull_1 : decode cA_isWalletFull 1 = .ok (.getfield 21, 3) := by decide +kernel
theorem dA_isWalletFull_4 : decode cA_isWalletFull 4 = .ok (.bipush 8, 2) := by decide +kernel
theorem dA_isWalletFull_6 : decode cA_isWalletFull 6 = .ok (.if_icmp .lt 7, 3) := by decide +kernel
theorem dA_isWalletFull_9 : decode cA_isWalletFull 9 = .ok (.iconst 1, 1) := by decide +kernel
theorem dA_isWalletFull_10 : decode cA_isWalletFull 10 = .ok (.goto 4, 3) := by decide +kernel
theorem dA_isWalletFull_13 : decode cA_isWalletFull 13 = .ok (.iconst 0, 1) := by decide +kernel
theorem dA_isWalletFull_14 : decode cA_isWalletFull 14 = .ok (.ireturn, 1) := by decide +kernel
abbrev yQ_make : MethodName := { cls := "BlindMint$Proposal", name := "make", desc := "(JJI)V" }
abbrev cQ_make : ByteArray := prog_10_method_2_code
theorem dQ_make_0 : decode cQ_make 0 = .ok (.iconst 0, 1) := by decide +kernel
theorem dQ_make_1 : decode cQ_make 1 = .ok (.istore 6, 2) := by decide +kernel
theorem dQ_make_3 : decode cQ_make 3 = .ok (.iload 6, 2) := by decide +kernel
theorem dQ_make_5 : decode cQ_make 5 = .ok (.bipush 6, 2) := by decide +kernel
theorem dQ_make_7 : decode cQ_make 7 = .ok (.if_icmp .ge 32, 3) := by decide +kernel
theorem dQ_make_10 : decode cQ_make 10 = .ok (.aload_n 0, 1) := by decide +kernel
theorem dQ_make_11 : decode cQ_make 11 = .ok (.getfield 11, 3) := by decide +kernel
theorem dQ_make_14 : decode cQ_make 14 = .ok (.iload 6, 2) := by decide +kernel
theorem dQ_make_16 : decode cQ_make 16 = .ok (.aaload, 1) := by decide +kernel
theorem dQ_make_17 : decode cQ_make 17 = .ok (.lload_n 1, 1) := by decide +kernel
theorem dQ_make_18 : decode cQ_make 18 = .ok (.iload 6, 2) := by decide +kernel
theorem dQ_make_20 : decode cQ_make 20 = .ok (.lload_n 3, 1) := by decide +kernel
theorem dQ_make_21 : decode cQ_make 21 = .ok (.iload 5, 2) := by decide +kernel
theorem dQ_make_23 : decode cQ_make 23 = .ok (.iload 6, 2) := by decide +kernel
theorem dQ_make_25 : decode cQ_make 25 = .ok (.ishr, 1) := by decide +kernel
theorem dQ_make_26 : decode cQ_make 26 = .ok (.iconst 1, 1) := by decide +kernel
theorem dQ_make_27 : decode cQ_make 27 = .ok (.iand, 1) := by decide +kernel
theorem dQ_make_28 : decode cQ_make 28 = .ok (.i2l, 1) := by decide +kernel
theorem dQ_make_29 : decode cQ_make 29 = .ok (.lxor, 1) := by decide +kernel
theorem dQ_make_30 : decode cQ_make 30 = .ok (.invokevirtual 28, 3) := by decide +kernel
theorem dQ_make_33 : decode cQ_make 33 = .ok (.iinc 6 1, 3) := by decide +kernel
theorem dQ_make_36 : decode cQ_make 36 = .ok (.goto (-33), 3) := by decide +kernel
theorem dQ_make_39 : decode cQ_make 39 = .ok (.aload_n 0, 1) := by decide +kernel
theorem dQ_make_40 : decode cQ_make 40 = .ok (.invokevirtual 32, 3) := by decide +kernel
theorem dQ_make_43 : decode cQ_make 43 = .ok (.aload_n 0, 1) := by decide +kernel
theorem dQ_make_44 : decode cQ_make 44 = .ok (.invokevirtual 35, 3) := by decide +kernel
theorem dQ_make_47 : decode cQ_make 47 = .ok (.return_, 1) := by decide +kernel
abbrev yC_make : MethodName := { cls := "BlindMint$Candidate", name := "make", desc := "(JIJ)V" }
abbrev cC_make : ByteArray := prog_3_method_2_code
theorem dC_make_0 : decode cC_make 0 = .ok (.aload_n 0, 1) := by decide +kernel
theorem dC_make_1 : decode cC_make 1 = .ok (.lload_n 1, 1) := by decide +kernel
theorem dC_make_2 : decode cC_make 2 = .ok (.iconst 3, 1) := by decide +kernel
theorem dC_make_3 : decode cC_make 3 = .ok (.iload_n 3, 1) := by decide +kernel
theorem dC_make_4 : decode cC_make 4 = .ok (.imul, 1) := by decide +kernel
theorem dC_make_5 : decode cC_make 5 = .ok (.i2l, 1) := by decide +kernel
theorem dC_make_6 : decode cC_make 6 = .ok (.invokestatic 7, 3) := by decide +kernel
theorem dC_make_9 : decode cC_make 9 = .ok (.putfield 13, 3) := by decide +kernel
theorem dC_make_12 : decode cC_make 12 = .ok (.aload_n 0, 1) := by decide +kernel
theorem dC_make_13 : decode cC_make 13 = .ok (.lload_n 1, 1) := by decide +kernel
theorem dC_make_14 : decode cC_make 14 = .ok (.iconst 3, 1) := by decide +kernel
theorem dC_make_15 : decode cC_make 15 = .ok (.iload_n 3, 1) := by decide +kernel
theorem dC_make_16 : decode cC_make 16 = .ok (.imul, 1) := by decide +kernel
theorem dC_make_17 : decode cC_make 17 = .ok (.iconst 1, 1) := by decide +kernel
theorem dC_make_18 : decode cC_make 18 = .ok (.iadd, 1) := by decide +kernel
theorem dC_make_19 : decode cC_make 19 = .ok (.i2l, 1) := by decide +kernel
theorem dC_make_20 : decode cC_make 20 = .ok (.invokestatic 7, 3) := by decide +kernel
theorem dC_make_23 : decode cC_make 23 = .ok (.putfield 19, 3) := by decide +kernel
theorem dC_make_26 : decode cC_make 26 = .ok (.aload_n 0, 1) := by decide +kernel
theorem dC_make_27 : decode cC_make 27 = .ok (.lload_n 1, 1) := by decide +kernel
theorem dC_make_28 : decode cC_make 28 = .ok (.iconst 3, 1) := by decide +kernel
theorem dC_make_29 : decode cC_make 29 = .ok (.iload_n 3, 1) := by decide +kernel
theorem dC_make_30 : decode cC_make 30 = .ok (.imul, 1) := by decide +kernel
theorem dC_make_31 : decode cC_make 31 = .ok (.iconst 2, 1) := by decide +kernel
theorem dC_make_32 : decode cC_make 32 = .ok (.iadd, 1) := by decide +kernel
theorem dC_make_33 : decode cC_make 33 = .ok (.i2l, 1) := by decide +kernel
theorem dC_make_34 : decode cC_make 34 = .ok (.invokestatic 7, 3) := by decide +kernel
theorem dC_make_37 : decode cC_make 37 = .ok (.putfield 22, 3) := by decide +kernel
theorem dC_make_40 : decode cC_make 40 = .ok (.aload_n 0, 1) := by decide +kernel
theorem dC_make_41 : decode cC_make 41 = .ok (.aload_n 0, 1) := by decide +kernel
theorem dC_make_42 : decode cC_make 42 = .ok (.getfield 13, 3) := by decide +kernel
theorem dC_make_45 : decode cC_make 45 = .ok (.lload 4, 2) := by decide +kernel
theorem dC_make_47 : decode cC_make 47 = .ok (.lxor, 1) := by decide +kernel
theorem dC_make_48 : decode cC_make 48 = .ok (.putfield 25, 3) := by decide +kernel
theorem dC_make_51 : decode cC_make 51 = .ok (.aload_n 0, 1) := by decide +kernel
theorem dC_make_52 : decode cC_make 52 = .ok (.aload_n 0, 1) := by decide +kernel
theorem dC_make_53 : decode cC_make 53 = .ok (.getfield 13, 3) := by decide +kernel
theorem dC_make_56 : decode cC_make 56 = .ok (.aload_n 0, 1) := by decide +kernel
theorem dC_make_57 : decode cC_make 57 = .ok (.getfield 19, 3) := by decide +kernel
theorem dC_make_60 : decode cC_make 60 = .ok (.invokestatic 7, 3) := by decide +kernel
theorem dC_make_63 : decode cC_make 63 = .ok (.putfield 28, 3) := by decide +kernel
theorem dC_make_66 : decode cC_make 66 = .ok (.aload_n 0, 1) := by decide +kernel
theorem dC_make_67 : decode cC_make 67 = .ok (.aload_n 0, 1) := by decide +kernel
theorem dC_make_68 : decode cC_make 68 = .ok (.getfield 25, 3) := by decide +kernel
theorem dC_make_71 : decode cC_make 71 = .ok (.aload_n 0, 1) := by decide +kernel
theorem dC_make_72 : decode cC_make 72 = .ok (.getfield 22, 3) := by decide +kernel
theorem dC_make_75 : decode cC_make 75 = .ok (.invokestatic 7, 3) := by decide +kernel
theorem dC_make_78 : decode cC_make 78 = .ok (.putfield 31, 3) := by decide +kernel
theorem dC_make_81 : decode cC_make 81 = .ok (.aload_n 0, 1) := by decide +kernel
theorem dC_make_82 : decode cC_make 82 = .ok (.aload_n 0, 1) := by decide +kernel
theorem dC_make_83 : decode cC_make 83 = .ok (.getfield 28, 3) := by decide +kernel
theorem dC_make_86 : decode cC_make 86 = .ok (.aload_n 0, 1) := by decide +kernel
theorem dC_make_87 : decode cC_make 87 = .ok (.getfield 31, 3) := by decide +kernel
theorem dC_make_90 : decode cC_make 90 = .ok (.invokestatic 7, 3) := by decide +kernel
theorem dC_make_93 : decode cC_make 93 = .ok (.putfield 34, 3) := by decide +kernel
theorem dC_make_96 : decode cC_make 96 = .ok (.return_, 1) := by decide +kernel
abbrev yQ_open : MethodName := { cls := "BlindMint$Proposal", name := "open", desc := "()V" }
abbrev cQ_open : ByteArray := prog_10_method_5_code
theorem dQ_open_0 : decode cQ_open 0 = .ok (.ldc2_w 48, 3) := by decide +kernel
theorem dQ_open_3 : decode cQ_open 3 = .ok (.lstore_n 1, 1) := by decide +kernel
theorem dQ_open_4 : decode cQ_open 4 = .ok (.iconst 0, 1) := by decide +kernel
theorem dQ_open_5 : decode cQ_open 5 = .ok (.istore_n 3, 1) := by decide +kernel
theorem dQ_open_6 : decode cQ_open 6 = .ok (.iload_n 3, 1) := by decide +kernel
theorem dQ_open_7 : decode cQ_open 7 = .ok (.bipush 6, 2) := by decide +kernel
theorem dQ_open_9 : decode cQ_open 9 = .ok (.if_icmp .ge 23, 3) := by decide +kernel
theorem dQ_open_12 : decode cQ_open 12 = .ok (.lload_n 1, 1) := by decide +kernel
theorem dQ_open_13 : decode cQ_open 13 = .ok (.aload_n 0, 1) := by decide +kernel
theorem dQ_open_14 : decode cQ_open 14 = .ok (.getfield 11, 3) := by decide +kernel
theorem dQ_open_17 : decode cQ_open 17 = .ok (.iload_n 3, 1) := by decide +kernel
theorem dQ_open_18 : decode cQ_open 18 = .ok (.aaload, 1) := by decide +kernel
theorem dQ_open_19 : decode cQ_open 19 = .ok (.getfield 42, 3) := by decide +kernel
theorem dQ_open_22 : decode cQ_open 22 = .ok (.invokestatic 50, 3) := by decide +kernel
theorem dQ_open_25 : decode cQ_open 25 = .ok (.lstore_n 1, 1) := by decide +kernel
theorem dQ_open_26 : decode cQ_open 26 = .ok (.iinc 3 1, 3) := by decide +kernel
theorem dQ_open_29 : decode cQ_open 29 = .ok (.goto (-23), 3) := by decide +kernel
theorem dQ_open_32 : decode cQ_open 32 = .ok (.lload_n 1, 1) := by decide +kernel
theorem dQ_open_33 : decode cQ_open 33 = .ok (.invokestatic 54, 3) := by decide +kernel
theorem dQ_open_36 : decode cQ_open 36 = .ok (.lstore_n 3, 1) := by decide +kernel
theorem dQ_open_37 : decode cQ_open 37 = .ok (.aload_n 0, 1) := by decide +kernel
theorem dQ_open_38 : decode cQ_open 38 = .ok (.lload_n 3, 1) := by decide +kernel
theorem dQ_open_39 : decode cQ_open 39 = .ok (.ldc2_w 58, 3) := by decide +kernel
theorem dQ_open_42 : decode cQ_open 42 = .ok (.lrem, 1) := by decide +kernel
theorem dQ_open_43 : decode cQ_open 43 = .ok (.l2i, 1) := by decide +kernel
theorem dQ_open_44 : decode cQ_open 44 = .ok (.putfield 20, 3) := by decide +kernel
theorem dQ_open_47 : decode cQ_open 47 = .ok (.iconst 1, 1) := by decide +kernel
theorem dQ_open_48 : decode cQ_open 48 = .ok (.lload_n 3, 1) := by decide +kernel
theorem dQ_open_49 : decode cQ_open 49 = .ok (.ldc2_w 58, 3) := by decide +kernel
theorem dQ_open_52 : decode cQ_open 52 = .ok (.ldiv, 1) := by decide +kernel
theorem dQ_open_53 : decode cQ_open 53 = .ok (.ldc2_w 60, 3) := by decide +kernel
theorem dQ_open_56 : decode cQ_open 56 = .ok (.lrem, 1) := by decide +kernel
theorem dQ_open_57 : decode cQ_open 57 = .ok (.l2i, 1) := by decide +kernel
theorem dQ_open_58 : decode cQ_open 58 = .ok (.iadd, 1) := by decide +kernel
theorem dQ_open_59 : decode cQ_open 59 = .ok (.istore 5, 2) := by decide +kernel
theorem dQ_open_61 : decode cQ_open 61 = .ok (.aload_n 0, 1) := by decide +kernel
theorem dQ_open_62 : decode cQ_open 62 = .ok (.aload_n 0, 1) := by decide +kernel
theorem dQ_open_63 : decode cQ_open 63 = .ok (.getfield 20, 3) := by decide +kernel
theorem dQ_open_66 : decode cQ_open 66 = .ok (.iload 5, 2) := by decide +kernel
theorem dQ_open_68 : decode cQ_open 68 = .ok (.iadd, 1) := by decide +kernel
theorem dQ_open_69 : decode cQ_open 69 = .ok (.bipush 6, 2) := by decide +kernel
theorem dQ_open_71 : decode cQ_open 71 = .ok (.irem, 1) := by decide +kernel
theorem dQ_open_72 : decode cQ_open 72 = .ok (.putfield 24, 3) := by decide +kernel
theorem dQ_open_75 : decode cQ_open 75 = .ok (.return_, 1) := by decide +kernel
abbrev yQ_sortParts : MethodName := { cls := "BlindMint$Proposal", name := "sortParts", desc := "()V" }
abbrev cQ_sortParts : ByteArray := prog_10_method_6_code
theorem dQ_sortParts_0 : decode cQ_sortParts 0 = .ok (.iconst 0, 1) := by decide +kernel
theorem dQ_sortParts_1 : decode cQ_sortParts 1 = .ok (.istore_n 1, 1) := by decide +kernel
theorem dQ_sortParts_2 : decode cQ_sortParts 2 = .ok (.iconst 0, 1) := by decide +kernel
theorem dQ_sortParts_3 : decode cQ_sortParts 3 = .ok (.istore_n 2, 1) := by decide +kernel
theorem dQ_sortParts_4 : decode cQ_sortParts 4 = .ok (.iload_n 2, 1) := by decide +kernel
theorem dQ_sortParts_5 : decode cQ_sortParts 5 = .ok (.bipush 6, 2) := by decide +kernel
theorem dQ_sortParts_7 : decode cQ_sortParts 7 = .ok (.if_icmp .ge 44, 3) := by decide +kernel
theorem dQ_sortParts_10 : decode cQ_sortParts 10 = .ok (.iload_n 1, 1) := by decide +kernel
theorem dQ_sortParts_11 : decode cQ_sortParts 11 = .ok (.iconst 4, 1) := by decide +kernel
theorem dQ_sortParts_12 : decode cQ_sortParts 12 = .ok (.if_icmp .ge 39, 3) := by decide +kernel
theorem dQ_sortParts_15 : decode cQ_sortParts 15 = .ok (.iload_n 2, 1) := by decide +kernel
theorem dQ_sortParts_16 : decode cQ_sortParts 16 = .ok (.aload_n 0, 1) := by decide +kernel
theorem dQ_sortParts_17 : decode cQ_sortParts 17 = .ok (.getfield 20, 3) := by decide +kernel
theorem dQ_sortParts_20 : decode cQ_sortParts 20 = .ok (.if_icmp .eq 25, 3) := by decide +kernel
theorem dQ_sortParts_23 : decode cQ_sortParts 23 = .ok (.iload_n 2, 1) := by decide +kernel
theorem dQ_sortParts_24 : decode cQ_sortParts 24 = .ok (.aload_n 0, 1) := by decide +kernel
theorem dQ_sortParts_25 : decode cQ_sortParts 25 = .ok (.getfield 24, 3) := by decide +kernel
theorem dQ_sortParts_28 : decode cQ_sortParts 28 = .ok (.if_icmp .eq 17, 3) := by decide +kernel
theorem dQ_sortParts_31 : decode cQ_sortParts 31 = .ok (.aload_n 0, 1) := by decide +kernel
theorem dQ_sortParts_32 : decode cQ_sortParts 32 = .ok (.aload_n 0, 1) := by decide +kernel
theorem dQ_sortParts_33 : decode cQ_sortParts 33 = .ok (.getfield 11, 3) := by decide +kernel
theorem dQ_sortParts_36 : decode cQ_sortParts 36 = .ok (.iload_n 2, 1) := by decide +kernel
theorem dQ_sortParts_37 : decode cQ_sortParts 37 = .ok (.aaload, 1) := by decide +kernel
theorem dQ_sortParts_38 : decode cQ_sortParts 38 = .ok (.iload_n 1, 1) := by decide +kernel
theorem dQ_sortParts_39 : decode cQ_sortParts 39 = .ok (.invokevirtual 62, 3) := by decide +kernel
theorem dQ_sortParts_42 : decode cQ_sortParts 42 = .ok (.iinc 1 1, 3) := by decide +kernel
theorem dQ_sortParts_45 : decode cQ_sortParts 45 = .ok (.iinc 2 1, 3) := by decide +kernel
theorem dQ_sortParts_48 : decode cQ_sortParts 48 = .ok (.goto (-44), 3) := by decide +kernel
theorem dQ_sortParts_51 : decode cQ_sortParts 51 = .ok (.return_, 1) := by decide +kernel
abbrev yQ_insertPart : MethodName := { cls := "BlindMint$Proposal", name := "insertPart", desc := "(LBlindMint$Candidate;I)V" }
abbrev cQ_insertPart : ByteArray := prog_10_method_7_code
theorem dQ_insertPart_0 : decode cQ_insertPart 0 = .ok (.iload_n 2, 1) := by decide +kernel
theorem dQ_insertPart_1 : decode cQ_insertPart 1 = .ok (.istore_n 3, 1) := by decide +kernel
theorem dQ_insertPart_2 : decode cQ_insertPart 2 = .ok (.iload_n 3, 1) := by decide +kernel
theorem dQ_insertPart_3 : decode cQ_insertPart 3 = .ok (.ifCond .le 42, 3) := by decide +kernel
theorem dQ_insertPart_6 : decode cQ_insertPart 6 = .ok (.aload_n 0, 1) := by decide +kernel
theorem dQ_insertPart_7 : decode cQ_insertPart 7 = .ok (.getfield 17, 3) := by decide +kernel
theorem dQ_insertPart_10 : decode cQ_insertPart 10 = .ok (.iload_n 3, 1) := by decide +kernel
theorem dQ_insertPart_11 : decode cQ_insertPart 11 = .ok (.iconst 1, 1) := by decide +kernel
theorem dQ_insertPart_12 : decode cQ_insertPart 12 = .ok (.isub, 1) := by decide +kernel
theorem dQ_insertPart_13 : decode cQ_insertPart 13 = .ok (.aaload, 1) := by decide +kernel
theorem dQ_insertPart_14 : decode cQ_insertPart 14 = .ok (.getfield 42, 3) := by decide +kernel
theorem dQ_insertPart_17 : decode cQ_insertPart 17 = .ok (.aload_n 1, 1) := by decide +kernel
theorem dQ_insertPart_18 : decode cQ_insertPart 18 = .ok (.getfield 42, 3) := by decide +kernel
theorem dQ_insertPart_21 : decode cQ_insertPart 21 = .ok (.lcmp, 1) := by decide +kernel
theorem dQ_insertPart_22 : decode cQ_insertPart 22 = .ok (.ifCond .le 23, 3) := by decide +kernel
theorem dQ_insertPart_25 : decode cQ_insertPart 25 = .ok (.aload_n 0, 1) := by decide +kernel
theorem dQ_insertPart_26 : decode cQ_insertPart 26 = .ok (.getfield 17, 3) := by decide +kernel
theorem dQ_insertPart_29 : decode cQ_insertPart 29 = .ok (.iload_n 3, 1) := by decide +kernel
theorem dQ_insertPart_30 : decode cQ_insertPart 30 = .ok (.aload_n 0, 1) := by decide +kernel
theorem dQ_insertPart_31 : decode cQ_insertPart 31 = .ok (.getfield 17, 3) := by decide +kernel
theorem dQ_insertPart_34 : decode cQ_insertPart 34 = .ok (.iload_n 3, 1) := by decide +kernel
theorem dQ_insertPart_35 : decode cQ_insertPart 35 = .ok (.iconst 1, 1) := by decide +kernel
theorem dQ_insertPart_36 : decode cQ_insertPart 36 = .ok (.isub, 1) := by decide +kernel
theorem dQ_insertPart_37 : decode cQ_insertPart 37 = .ok (.aaload, 1) := by decide +kernel
theorem dQ_insertPart_38 : decode cQ_insertPart 38 = .ok (.aastore, 1) := by decide +kernel
theorem dQ_insertPart_39 : decode cQ_insertPart 39 = .ok (.iinc 3 (-1), 3) := by decide +kernel
theorem dQ_insertPart_42 : decode cQ_insertPart 42 = .ok (.goto (-40), 3) := by decide +kernel
theorem dQ_insertPart_45 : decode cQ_insertPart 45 = .ok (.aload_n 0, 1) := by decide +kernel
theorem dQ_insertPart_46 : decode cQ_insertPart 46 = .ok (.getfield 17, 3) := by decide +kernel
theorem dQ_insertPart_49 : decode cQ_insertPart 49 = .ok (.iload_n 3, 1) := by decide +kernel
theorem dQ_insertPart_50 : decode cQ_insertPart 50 = .ok (.aload_n 1, 1) := by decide +kernel
theorem dQ_insertPart_51 : decode cQ_insertPart 51 = .ok (.aastore, 1) := by decide +kernel
theorem dQ_insertPart_52 : decode cQ_insertPart 52 = .ok (.return_, 1) := by decide +kernel
abbrev yQ_openedCheats : MethodName := { cls := "BlindMint$Proposal", name := "openedCheats", desc := "(J)I" }
abbrev cQ_openedCheats : ByteArray := prog_10_method_3_code
theorem dQ_openedCheats_0 : decode cQ_openedCheats 0 = .ok (.aload_n 0, 1) := by decide +kernel
theorem dQ_openedCheats_1 : decode cQ_openedCheats 1 = .ok (.getfield 11, 3) := by decide +kernel
theorem dQ_openedCheats_4 : decode cQ_openedCheats 4 = .ok (.aload_n 0, 1) := by decide +kernel
theorem dQ_openedCheats_5 : decode cQ_openedCheats 5 = .ok (.getfield 20, 3) := by decide +kernel
theorem dQ_openedCheats_8 : decode cQ_openedCheats 8 = .ok (.aaload, 1) := by decide +kernel
theorem dQ_openedCheats_9 : decode cQ_openedCheats 9 = .ok (.lload_n 1, 1) := by decide +kernel
theorem dQ_openedCheats_10 : decode cQ_openedCheats 10 = .ok (.invokevirtual 38, 3) := by decide +kernel
theorem dQ_openedCheats_13 : decode cQ_openedCheats 13 = .ok (.ifCond .eq 7, 3) := by decide +kernel
theorem dQ_openedCheats_16 : decode cQ_openedCheats 16 = .ok (.iconst 0, 1) := by decide +kernel
theorem dQ_openedCheats_17 : decode cQ_openedCheats 17 = .ok (.goto 4, 3) := by decide +kernel
theorem dQ_openedCheats_20 : decode cQ_openedCheats 20 = .ok (.iconst 1, 1) := by decide +kernel
theorem dQ_openedCheats_21 : decode cQ_openedCheats 21 = .ok (.aload_n 0, 1) := by decide +kernel
theorem dQ_openedCheats_22 : decode cQ_openedCheats 22 = .ok (.getfield 11, 3) := by decide +kernel
theorem dQ_openedCheats_25 : decode cQ_openedCheats 25 = .ok (.aload_n 0, 1) := by decide +kernel
theorem dQ_openedCheats_26 : decode cQ_openedCheats 26 = .ok (.getfield 24, 3) := by decide +kernel
theorem dQ_openedCheats_29 : decode cQ_openedCheats 29 = .ok (.aaload, 1) := by decide +kernel
theorem dQ_openedCheats_30 : decode cQ_openedCheats 30 = .ok (.lload_n 1, 1) := by decide +kernel
theorem dQ_openedCheats_31 : decode cQ_openedCheats 31 = .ok (.invokevirtual 38, 3) := by decide +kernel
theorem dQ_openedCheats_34 : decode cQ_openedCheats 34 = .ok (.ifCond .eq 7, 3) := by decide +kernel
theorem dQ_openedCheats_37 : decode cQ_openedCheats 37 = .ok (.iconst 0, 1) := by decide +kernel
theorem dQ_openedCheats_38 : decode cQ_openedCheats 38 = .ok (.goto 4, 3) := by decide +kernel
theorem dQ_openedCheats_41 : decode cQ_openedCheats 41 = .ok (.iconst 1, 1) := by decide +kernel
theorem dQ_openedCheats_42 : decode cQ_openedCheats 42 = .ok (.iadd, 1) := by decide +kernel
theorem dQ_openedCheats_43 : decode cQ_openedCheats 43 = .ok (.ireturn, 1) := by decide +kernel
abbrev yC_hides : MethodName := { cls := "BlindMint$Candidate", name := "hides", desc := "(J)Z" }
abbrev cC_hides : ByteArray := prog_3_method_3_code
theorem dC_hides_0 : decode cC_hides 0 = .ok (.aload_n 0, 1) := by decide +kernel
theorem dC_hides_1 : decode cC_hides 1 = .ok (.getfield 13, 3) := by decide +kernel
theorem dC_hides_4 : decode cC_hides 4 = .ok (.aload_n 0, 1) := by decide +kernel
theorem dC_hides_5 : decode cC_hides 5 = .ok (.getfield 25, 3) := by decide +kernel
theorem dC_hides_8 : decode cC_hides 8 = .ok (.lxor, 1) := by decide +kernel
theorem dC_hides_9 : decode cC_hides 9 = .ok (.lload_n 1, 1) := by decide +kernel
theorem dC_hides_10 : decode cC_hides 10 = .ok (.lcmp, 1) := by decide +kernel
theorem dC_hides_11 : decode cC_hides 11 = .ok (.ifCond .ne 7, 3) := by decide +kernel
theorem dC_hides_14 : decode cC_hides 14 = .ok (.iconst 1, 1) := by decide +kernel
theorem dC_hides_15 : decode cC_hides 15 = .ok (.goto 4, 3) := by decide +kernel
theorem dC_hides_18 : decode cC_hides 18 = .ok (.iconst 0, 1) := by decide +kernel
theorem dC_hides_19 : decode cC_hides 19 = .ok (.ireturn, 1) := by decide +kernel
abbrev yQ_readPairHashes : MethodName := { cls := "BlindMint$Proposal", name := "readPairHashes", desc := "([J)V" }
abbrev cQ_readPairHashes : ByteArray := prog_10_method_4_code
theorem dQ_readPairHashes_0 : decode cQ_readPairHashes 0 = .ok (.iconst 0, 1) := by decide +kernel
theorem dQ_readPairHashes_1 : decode cQ_readPairHashes 1 = .ok (.istore_n 2, 1) := by decide +kernel
theorem dQ_readPairHashes_2 : decode cQ_readPairHashes 2 = .ok (.iload_n 2, 1) := by decide +kernel
theorem dQ_readPairHashes_3 : decode cQ_readPairHashes 3 = .ok (.iconst 4, 1) := by decide +kernel
theorem dQ_readPairHashes_4 : decode cQ_readPairHashes 4 = .ok (.if_icmp .ge 21, 3) := by decide +kernel
theorem dQ_readPairHashes_7 : decode cQ_readPairHashes 7 = .ok (.aload_n 1, 1) := by decide +kernel
theorem dQ_readPairHashes_8 : decode cQ_readPairHashes 8 = .ok (.iload_n 2, 1) := by decide +kernel
theorem dQ_readPairHashes_9 : decode cQ_readPairHashes 9 = .ok (.aload_n 0, 1) := by decide +kernel
theorem dQ_readPairHashes_10 : decode cQ_readPairHashes 10 = .ok (.getfield 17, 3) := by decide +kernel
theorem dQ_readPairHashes_13 : decode cQ_readPairHashes 13 = .ok (.iload_n 2, 1) := by decide +kernel
theorem dQ_readPairHashes_14 : decode cQ_readPairHashes 14 = .ok (.aaload, 1) := by decide +kernel
theorem dQ_readPairHashes_15 : decode cQ_readPairHashes 15 = .ok (.getfield 42, 3) := by decide +kernel
theorem dQ_readPairHashes_18 : decode cQ_readPairHashes 18 = .ok (.lastore, 1) := by decide +kernel
theorem dQ_readPairHashes_19 : decode cQ_readPairHashes 19 = .ok (.iinc 2 1, 3) := by decide +kernel
theorem dQ_readPairHashes_22 : decode cQ_readPairHashes 22 = .ok (.goto (-20), 3) := by decide +kernel
theorem dQ_readPairHashes_25 : decode cQ_readPairHashes 25 = .ok (.return_, 1) := by decide +kernel
abbrev yD_blindingFactor : MethodName := { cls := "BlindMint$Denomination", name := "blindingFactor", desc := "(J)J" }
abbrev cD_blindingFactor : ByteArray := prog_6_method_4_code
theorem dD_blindingFactor_0 : decode cD_blindingFactor 0 = .ok (.lload_n 1, 1) := by decide +kernel
theorem dD_blindingFactor_1 : decode cD_blindingFactor 1 = .ok (.lstore_n 3, 1) := by decide +kernel
theorem dD_blindingFactor_2 : decode cD_blindingFactor 2 = .ok (.iconst 0, 1) := by decide +kernel
theorem dD_blindingFactor_3 : decode cD_blindingFactor 3 = .ok (.istore 5, 2) := by decide +kernel
theorem dD_blindingFactor_5 : decode cD_blindingFactor 5 = .ok (.iload 5, 2) := by decide +kernel
theorem dD_blindingFactor_7 : decode cD_blindingFactor 7 = .ok (.iconst 2, 1) := by decide +kernel
theorem dD_blindingFactor_8 : decode cD_blindingFactor 8 = .ok (.if_icmp .ge 35, 3) := by decide +kernel
theorem dD_blindingFactor_11 : decode cD_blindingFactor 11 = .ok (.lload_n 3, 1) := by decide +kernel
theorem dD_blindingFactor_12 : decode cD_blindingFactor 12 = .ok (.aload_n 0, 1) := by decide +kernel
theorem dD_blindingFactor_13 : decode cD_blindingFactor 13 = .ok (.getfield 36, 3) := by decide +kernel
theorem dD_blindingFactor_16 : decode cD_blindingFactor 16 = .ok (.lrem, 1) := by decide +kernel
theorem dD_blindingFactor_17 : decode cD_blindingFactor 17 = .ok (.lconst 0, 1) := by decide +kernel
theorem dD_blindingFactor_18 : decode cD_blindingFactor 18 = .ok (.lcmp, 1) := by decide +kernel
theorem dD_blindingFactor_19 : decode cD_blindingFactor 19 = .ok (.ifCond .eq 14, 3) := by decide +kernel
theorem dD_blindingFactor_22 : decode cD_blindingFactor 22 = .ok (.lload_n 3, 1) := by decide +kernel
theorem dD_blindingFactor_23 : decode cD_blindingFactor 23 = .ok (.aload_n 0, 1) := by decide +kernel
theorem dD_blindingFactor_24 : decode cD_blindingFactor 24 = .ok (.getfield 40, 3) := by decide +kernel
theorem dD_blindingFactor_27 : decode cD_blindingFactor 27 = .ok (.lrem, 1) := by decide +kernel
theorem dD_blindingFactor_28 : decode cD_blindingFactor 28 = .ok (.lconst 0, 1) := by decide +kernel
theorem dD_blindingFactor_29 : decode cD_blindingFactor 29 = .ok (.lcmp, 1) := by decide +kernel
theorem dD_blindingFactor_30 : decode cD_blindingFactor 30 = .ok (.ifCond .ne 13, 3) := by decide +kernel
theorem dD_blindingFactor_33 : decode cD_blindingFactor 33 = .ok (.lload_n 3, 1) := by decide +kernel
theorem dD_blindingFactor_34 : decode cD_blindingFactor 34 = .ok (.lconst 1, 1) := by decide +kernel
theorem dD_blindingFactor_35 : decode cD_blindingFactor 35 = .ok (.ladd, 1) := by decide +kernel
theorem dD_blindingFactor_36 : decode cD_blindingFactor 36 = .ok (.lstore_n 3, 1) := by decide +kernel
theorem dD_blindingFactor_37 : decode cD_blindingFactor 37 = .ok (.iinc 5 1, 3) := by decide +kernel
theorem dD_blindingFactor_40 : decode cD_blindingFactor 40 = .ok (.goto (-35), 3) := by decide +kernel
theorem dD_blindingFactor_43 : decode cD_blindingFactor 43 = .ok (.lload_n 3, 1) := by decide +kernel
theorem dD_blindingFactor_44 : decode cD_blindingFactor 44 = .ok (.lreturn, 1) := by decide +kernel
abbrev yD_blind : MethodName := { cls := "BlindMint$Denomination", name := "blind", desc := "(JJ)J" }
abbrev cD_blind : ByteArray := prog_6_method_5_code
theorem dD_blind_0 : decode cD_blind 0 = .ok (.aload_n 0, 1) := by decide +kernel
theorem dD_blind_1 : decode cD_blind 1 = .ok (.lload_n 1, 1) := by decide +kernel
theorem dD_blind_2 : decode cD_blind 2 = .ok (.lload_n 3, 1) := by decide +kernel
theorem dD_blind_3 : decode cD_blind 3 = .ok (.ldc2_w 43, 3) := by decide +kernel
theorem dD_blind_6 : decode cD_blind 6 = .ok (.aload_n 0, 1) := by decide +kernel
theorem dD_blind_7 : decode cD_blind 7 = .ok (.getfield 36, 3) := by decide +kernel
theorem dD_blind_10 : decode cD_blind 10 = .ok (.invokestatic 45, 3) := by decide +kernel
theorem dD_blind_13 : decode cD_blind 13 = .ok (.aload_n 0, 1) := by decide +kernel
theorem dD_blind_14 : decode cD_blind 14 = .ok (.getfield 36, 3) := by decide +kernel
theorem dD_blind_17 : decode cD_blind 17 = .ok (.invokestatic 51, 3) := by decide +kernel
theorem dD_blind_20 : decode cD_blind 20 = .ok (.lload_n 1, 1) := by decide +kernel
theorem dD_blind_21 : decode cD_blind 21 = .ok (.lload_n 3, 1) := by decide +kernel
theorem dD_blind_22 : decode cD_blind 22 = .ok (.ldc2_w 43, 3) := by decide +kernel
theorem dD_blind_25 : decode cD_blind 25 = .ok (.aload_n 0, 1) := by decide +kernel
theorem dD_blind_26 : decode cD_blind 26 = .ok (.getfield 40, 3) := by decide +kernel
theorem dD_blind_29 : decode cD_blind 29 = .ok (.invokestatic 45, 3) := by decide +kernel
theorem dD_blind_32 : decode cD_blind 32 = .ok (.aload_n 0, 1) := by decide +kernel
theorem dD_blind_33 : decode cD_blind 33 = .ok (.getfield 40, 3) := by decide +kernel
theorem dD_blind_36 : decode cD_blind 36 = .ok (.invokestatic 51, 3) := by decide +kernel
theorem dD_blind_39 : decode cD_blind 39 = .ok (.invokevirtual 54, 3) := by decide +kernel
theorem dD_blind_42 : decode cD_blind 42 = .ok (.lreturn, 1) := by decide +kernel
abbrev yF_multiply : MethodName := { cls := "BlindMint$Field", name := "multiply", desc := "(JJJ)J" }
abbrev cF_multiply : ByteArray := prog_7_method_2_code
theorem dF_multiply_0 : decode cF_multiply 0 = .ok (.lload_n 0, 1) := by decide +kernel
theorem dF_multiply_1 : decode cF_multiply 1 = .ok (.lload 4, 2) := by decide +kernel
theorem dF_multiply_3 : decode cF_multiply 3 = .ok (.lrem, 1) := by decide +kernel
theorem dF_multiply_4 : decode cF_multiply 4 = .ok (.lload_n 2, 1) := by decide +kernel
theorem dF_multiply_5 : decode cF_multiply 5 = .ok (.lload 4, 2) := by decide +kernel
theorem dF_multiply_7 : decode cF_multiply 7 = .ok (.lrem, 1) := by decide +kernel
theorem dF_multiply_8 : decode cF_multiply 8 = .ok (.lmul, 1) := by decide +kernel
theorem dF_multiply_9 : decode cF_multiply 9 = .ok (.lload 4, 2) := by decide +kernel
theorem dF_multiply_11 : decode cF_multiply 11 = .ok (.lrem, 1) := by decide +kernel
theorem dF_multiply_12 : decode cF_multiply 12 = .ok (.lreturn, 1) := by decide +kernel
abbrev yD_join : MethodName := { cls := "BlindMint$Denomination", name := "join", desc := "(JJ)J" }
abbrev cD_join : ByteArray := prog_6_method_9_code
theorem dD_join_0 : decode cD_join 0 = .ok (.lload_n 3, 1) := by decide +kernel
theorem dD_join_1 : decode cD_join 1 = .ok (.lload_n 1, 1) := by decide +kernel
theorem dD_join_2 : decode cD_join 2 = .ok (.lsub, 1) := by decide +kernel
theorem dD_join_3 : decode cD_join 3 = .ok (.aload_n 0, 1) := by decide +kernel
theorem dD_join_4 : decode cD_join 4 = .ok (.getfield 40, 3) := by decide +kernel
theorem dD_join_7 : decode cD_join 7 = .ok (.invokestatic 64, 3) := by decide +kernel
theorem dD_join_10 : decode cD_join 10 = .ok (.aload_n 0, 1) := by decide +kernel
theorem dD_join_11 : decode cD_join 11 = .ok (.getfield 36, 3) := by decide +kernel
theorem dD_join_14 : decode cD_join 14 = .ok (.aload_n 0, 1) := by decide +kernel
theorem dD_join_15 : decode cD_join 15 = .ok (.getfield 40, 3) := by decide +kernel
theorem dD_join_18 : decode cD_join 18 = .ok (.invokestatic 61, 3) := by decide +kernel
theorem dD_join_21 : decode cD_join 21 = .ok (.lstore 5, 2) := by decide +kernel
theorem dD_join_23 : decode cD_join 23 = .ok (.lload_n 1, 1) := by decide +kernel
theorem dD_join_24 : decode cD_join 24 = .ok (.aload_n 0, 1) := by decide +kernel
theorem dD_join_25 : decode cD_join 25 = .ok (.getfield 36, 3) := by decide +kernel
theorem dD_join_28 : decode cD_join 28 = .ok (.lload 5, 2) := by decide +kernel
theorem dD_join_30 : decode cD_join 30 = .ok (.lmul, 1) := by decide +kernel
theorem dD_join_31 : decode cD_join 31 = .ok (.ladd, 1) := by decide +kernel
theorem dD_join_32 : decode cD_join 32 = .ok (.lreturn, 1) := by decide +kernel
abbrev yJ_floorMod : MethodName := { cls := "java/lang/Math", name := "floorMod", desc := "(JJ)J" }
abbrev cJ_floorMod : ByteArray := prog_18_method_52_code
theorem dJ_floorMod_0 : decode cJ_floorMod 0 = .ok (.lload_n 0, 1) := by decide +kernel
theorem dJ_floorMod_1 : decode cJ_floorMod 1 = .ok (.lload_n 2, 1) := by decide +kernel
theorem dJ_floorMod_2 : decode cJ_floorMod 2 = .ok (.lrem, 1) := by decide +kernel
theorem dJ_floorMod_3 : decode cJ_floorMod 3 = .ok (.lstore 4, 2) := by decide +kernel
theorem dJ_floorMod_5 : decode cJ_floorMod 5 = .ok (.lload_n 0, 1) := by decide +kernel
theorem dJ_floorMod_6 : decode cJ_floorMod 6 = .ok (.lload_n 2, 1) := by decide +kernel
theorem dJ_floorMod_7 : decode cJ_floorMod 7 = .ok (.lxor, 1) := by decide +kernel
theorem dJ_floorMod_8 : decode cJ_floorMod 8 = .ok (.lconst 0, 1) := by decide +kernel
theorem dJ_floorMod_9 : decode cJ_floorMod 9 = .ok (.lcmp, 1) := by decide +kernel
theorem dJ_floorMod_10 : decode cJ_floorMod 10 = .ok (.ifCond .ge 15, 3) := by decide +kernel
theorem dJ_floorMod_13 : decode cJ_floorMod 13 = .ok (.lload 4, 2) := by decide +kernel
theorem dJ_floorMod_15 : decode cJ_floorMod 15 = .ok (.lconst 0, 1) := by decide +kernel
theorem dJ_floorMod_16 : decode cJ_floorMod 16 = .ok (.lcmp, 1) := by decide +kernel
theorem dJ_floorMod_17 : decode cJ_floorMod 17 = .ok (.ifCond .eq 8, 3) := by decide +kernel
theorem dJ_floorMod_20 : decode cJ_floorMod 20 = .ok (.lload 4, 2) := by decide +kernel
theorem dJ_floorMod_22 : decode cJ_floorMod 22 = .ok (.lload_n 2, 1) := by decide +kernel
theorem dJ_floorMod_23 : decode cJ_floorMod 23 = .ok (.ladd, 1) := by decide +kernel
theorem dJ_floorMod_24 : decode cJ_floorMod 24 = .ok (.lreturn, 1) := by decide +kernel
theorem dJ_floorMod_25 : decode cJ_floorMod 25 = .ok (.lload 4, 2) := by decide +kernel
theorem dJ_floorMod_27 : decode cJ_floorMod 27 = .ok (.lreturn, 1) := by decide +kernel
abbrev yF_divide : MethodName := { cls := "BlindMint$Field", name := "divide", desc := "(JJJ)J" }
abbrev cF_divide : ByteArray := prog_7_method_4_code
theorem dF_divide_0 : decode cF_divide 0 = .ok (.lload_n 0, 1) := by decide +kernel
theorem dF_divide_1 : decode cF_divide 1 = .ok (.lload_n 2, 1) := by decide +kernel
theorem dF_divide_2 : decode cF_divide 2 = .ok (.lload 4, 2) := by decide +kernel
theorem dF_divide_4 : decode cF_divide 4 = .ok (.ldc2_w 15, 3) := by decide +kernel
theorem dF_divide_7 : decode cF_divide 7 = .ok (.lsub, 1) := by decide +kernel
theorem dF_divide_8 : decode cF_divide 8 = .ok (.lload 4, 2) := by decide +kernel
theorem dF_divide_10 : decode cF_divide 10 = .ok (.invokestatic 17, 3) := by decide +kernel
theorem dF_divide_13 : decode cF_divide 13 = .ok (.lload 4, 2) := by decide +kernel
theorem dF_divide_15 : decode cF_divide 15 = .ok (.invokestatic 21, 3) := by decide +kernel
theorem dF_divide_18 : decode cF_divide 18 = .ok (.lreturn, 1) := by decide +kernel
abbrev yD_sign : MethodName := { cls := "BlindMint$Denomination", name := "sign", desc := "(J)J" }
abbrev cD_sign : ByteArray := prog_6_method_6_code
theorem dD_sign_0 : decode cD_sign 0 = .ok (.aload_n 0, 1) := by decide +kernel
theorem dD_sign_1 : decode cD_sign 1 = .ok (.lload_n 1, 1) := by decide +kernel
theorem dD_sign_2 : decode cD_sign 2 = .ok (.ldc2_w 43, 3) := by decide +kernel
theorem dD_sign_5 : decode cD_sign 5 = .ok (.aload_n 0, 1) := by decide +kernel
theorem dD_sign_6 : decode cD_sign 6 = .ok (.getfield 36, 3) := by decide +kernel
theorem dD_sign_9 : decode cD_sign 9 = .ok (.invokestatic 58, 3) := by decide +kernel
theorem dD_sign_12 : decode cD_sign 12 = .ok (.lload_n 1, 1) := by decide +kernel
theorem dD_sign_13 : decode cD_sign 13 = .ok (.ldc2_w 43, 3) := by decide +kernel
theorem dD_sign_16 : decode cD_sign 16 = .ok (.aload_n 0, 1) := by decide +kernel
theorem dD_sign_17 : decode cD_sign 17 = .ok (.getfield 40, 3) := by decide +kernel
theorem dD_sign_20 : decode cD_sign 20 = .ok (.invokestatic 58, 3) := by decide +kernel
theorem dD_sign_23 : decode cD_sign 23 = .ok (.invokevirtual 54, 3) := by decide +kernel
theorem dD_sign_26 : decode cD_sign 26 = .ok (.lreturn, 1) := by decide +kernel
abbrev yF_root : MethodName := { cls := "BlindMint$Field", name := "root", desc := "(JJJ)J" }
abbrev cF_root : ByteArray := prog_7_method_5_code
theorem dF_root_0 : decode cF_root 0 = .ok (.lload_n 0, 1) := by decide +kernel
theorem dF_root_1 : decode cF_root 1 = .ok (.lload_n 2, 1) := by decide +kernel
theorem dF_root_2 : decode cF_root 2 = .ok (.lload 4, 2) := by decide +kernel
theorem dF_root_4 : decode cF_root 4 = .ok (.invokestatic 24, 3) := by decide +kernel
theorem dF_root_7 : decode cF_root 7 = .ok (.lload 4, 2) := by decide +kernel
theorem dF_root_9 : decode cF_root 9 = .ok (.invokestatic 17, 3) := by decide +kernel
theorem dF_root_12 : decode cF_root 12 = .ok (.lreturn, 1) := by decide +kernel
abbrev yF_rootExponent : MethodName := { cls := "BlindMint$Field", name := "rootExponent", desc := "(JJ)J" }
abbrev cF_rootExponent : ByteArray := prog_7_method_6_code
theorem dF_rootExponent_0 : decode cF_rootExponent 0 = .ok (.lconst 1, 1) := by decide +kernel
theorem dF_rootExponent_1 : decode cF_rootExponent 1 = .ok (.lstore 4, 2) := by decide +kernel
theorem dF_rootExponent_3 : decode cF_rootExponent 3 = .ok (.lload 4, 2) := by decide +kernel
theorem dF_rootExponent_5 : decode cF_rootExponent 5 = .ok (.lload_n 0, 1) := by decide +kernel
theorem dF_rootExponent_6 : decode cF_rootExponent 6 = .ok (.lcmp, 1) := by decide +kernel
theorem dF_rootExponent_7 : decode cF_rootExponent 7 = .ok (.ifCond .ge 36, 3) := by decide +kernel
theorem dF_rootExponent_10 : decode cF_rootExponent 10 = .ok (.lconst 1, 1) := by decide +kernel
theorem dF_rootExponent_11 : decode cF_rootExponent 11 = .ok (.lload 4, 2) := by decide +kernel
theorem dF_rootExponent_13 : decode cF_rootExponent 13 = .ok (.lload_n 2, 1) := by decide +kernel
theorem dF_rootExponent_14 : decode cF_rootExponent 14 = .ok (.lconst 1, 1) := by decide +kernel
theorem dF_rootExponent_15 : decode cF_rootExponent 15 = .ok (.lsub, 1) := by decide +kernel
theorem dF_rootExponent_16 : decode cF_rootExponent 16 = .ok (.lmul, 1) := by decide +kernel
theorem dF_rootExponent_17 : decode cF_rootExponent 17 = .ok (.ladd, 1) := by decide +kernel
theorem dF_rootExponent_18 : decode cF_rootExponent 18 = .ok (.lstore 6, 2) := by decide +kernel
theorem dF_rootExponent_20 : decode cF_rootExponent 20 = .ok (.lload 6, 2) := by decide +kernel
theorem dF_rootExponent_22 : decode cF_rootExponent 22 = .ok (.lload_n 0, 1) := by decide +kernel
theorem dF_rootExponent_23 : decode cF_rootExponent 23 = .ok (.lrem, 1) := by decide +kernel
theorem dF_rootExponent_24 : decode cF_rootExponent 24 = .ok (.lconst 0, 1) := by decide +kernel
theorem dF_rootExponent_25 : decode cF_rootExponent 25 = .ok (.lcmp, 1) := by decide +kernel
theorem dF_rootExponent_26 : decode cF_rootExponent 26 = .ok (.ifCond .ne 8, 3) := by decide +kernel
theorem dF_rootExponent_29 : decode cF_rootExponent 29 = .ok (.lload 6, 2) := by decide +kernel
theorem dF_rootExponent_31 : decode cF_rootExponent 31 = .ok (.lload_n 0, 1) := by decide +kernel
theorem dF_rootExponent_32 : decode cF_rootExponent 32 = .ok (.ldiv, 1) := by decide +kernel
theorem dF_rootExponent_33 : decode cF_rootExponent 33 = .ok (.lreturn, 1) := by decide +kernel
theorem dF_rootExponent_34 : decode cF_rootExponent 34 = .ok (.lload 4, 2) := by decide +kernel
theorem dF_rootExponent_36 : decode cF_rootExponent 36 = .ok (.lconst 1, 1) := by decide +kernel
theorem dF_rootExponent_37 : decode cF_rootExponent 37 = .ok (.ladd, 1) := by decide +kernel
theorem dF_rootExponent_38 : decode cF_rootExponent 38 = .ok (.lstore 4, 2) := by decide +kernel
theorem dF_rootExponent_40 : decode cF_rootExponent 40 = .ok (.goto (-37), 3) := by decide +kernel
theorem dF_rootExponent_43 : decode cF_rootExponent 43 = .ok (.lconst 1, 1) := by decide +kernel
theorem dF_rootExponent_44 : decode cF_rootExponent 44 = .ok (.lreturn, 1) := by decide +kernel
abbrev yD_unblind : MethodName := { cls := "BlindMint$Denomination", name := "unblind", desc := "(JJ)J" }
abbrev cD_unblind : ByteArray := prog_6_method_7_code
theorem dD_unblind_0 : decode cD_unblind 0 = .ok (.aload_n 0, 1) := by decide +kernel
theorem dD_unblind_1 : decode cD_unblind 1 = .ok (.lload_n 1, 1) := by decide +kernel
theorem dD_unblind_2 : decode cD_unblind 2 = .ok (.lload_n 3, 1) := by decide +kernel
theorem dD_unblind_3 : decode cD_unblind 3 = .ok (.aload_n 0, 1) := by decide +kernel
theorem dD_unblind_4 : decode cD_unblind 4 = .ok (.getfield 36, 3) := by decide +kernel
theorem dD_unblind_7 : decode cD_unblind 7 = .ok (.invokestatic 61, 3) := by decide +kernel
theorem dD_unblind_10 : decode cD_unblind 10 = .ok (.lload_n 1, 1) := by decide +kernel
theorem dD_unblind_11 : decode cD_unblind 11 = .ok (.lload_n 3, 1) := by decide +kernel
theorem dD_unblind_12 : decode cD_unblind 12 = .ok (.aload_n 0, 1) := by decide +kernel
theorem dD_unblind_13 : decode cD_unblind 13 = .ok (.getfield 40, 3) := by decide +kernel
theorem dD_unblind_16 : decode cD_unblind 16 = .ok (.invokestatic 61, 3) := by decide +kernel
theorem dD_unblind_19 : decode cD_unblind 19 = .ok (.invokevirtual 54, 3) := by decide +kernel
theorem dD_unblind_22 : decode cD_unblind 22 = .ok (.lreturn, 1) := by decide +kernel
abbrev yO_init : MethodName := { cls := "BlindMint$Coin", name := "<init>", desc := "(IJJ[LBlindMint$Candidate;)V" }
abbrev cO_init : ByteArray := prog_4_method_1_code
theorem dO_init_0 : decode cO_init 0 = .ok (.aload_n 0, 1) := by decide +kernel
theorem dO_init_1 : decode cO_init 1 = .ok (.invokespecial 3, 3) := by decide +kernel
theorem dO_init_4 : decode cO_init 4 = .ok (.aload_n 0, 1) := by decide +kernel
theorem dO_init_5 : decode cO_init 5 = .ok (.iconst 0, 1) := by decide +kernel
theorem dO_init_6 : decode cO_init 6 = .ok (.putfield 9, 3) := by decide +kernel
theorem dO_init_9 : decode cO_init 9 = .ok (.aload_n 0, 1) := by decide +kernel
theorem dO_init_10 : decode cO_init 10 = .ok (.bipush 12, 2) := by decide +kernel
theorem dO_init_12 : decode cO_init 12 = .ok (.newarray .long, 2) := by decide +kernel
theorem dO_init_14 : decode cO_init 14 = .ok (.putfield 17, 3) := by decide +kernel
theorem dO_init_17 : decode cO_init 17 = .ok (.aload_n 0, 1) := by decide +kernel
theorem dO_init_18 : decode cO_init 18 = .ok (.bipush 12, 2) := by decide +kernel
theorem dO_init_20 : decode cO_init 20 = .ok (.newarray .long, 2) := by decide +kernel
theorem dO_init_22 : decode cO_init 22 = .ok (.putfield 21, 3) := by decide +kernel
theorem dO_init_25 : decode cO_init 25 = .ok (.aload_n 0, 1) := by decide +kernel
theorem dO_init_26 : decode cO_init 26 = .ok (.iload_n 1, 1) := by decide +kernel
theorem dO_init_27 : decode cO_init 27 = .ok (.putfield 24, 3) := by decide +kernel
theorem dO_init_30 : decode cO_init 30 = .ok (.aload_n 0, 1) := by decide +kernel
theorem dO_init_31 : decode cO_init 31 = .ok (.lload_n 2, 1) := by decide +kernel
theorem dO_init_32 : decode cO_init 32 = .ok (.putfield 28, 3) := by decide +kernel
theorem dO_init_35 : decode cO_init 35 = .ok (.aload_n 0, 1) := by decide +kernel
theorem dO_init_36 : decode cO_init 36 = .ok (.lload 4, 2) := by decide +kernel
theorem dO_init_38 : decode cO_init 38 = .ok (.putfield 32, 3) := by decide +kernel
theorem dO_init_41 : decode cO_init 41 = .ok (.iconst 0, 1) := by decide +kernel
theorem dO_init_42 : decode cO_init 42 = .ok (.istore 7, 2) := by decide +kernel
theorem dO_init_44 : decode cO_init 44 = .ok (.iload 7, 2) := by decide +kernel
theorem dO_init_46 : decode cO_init 46 = .ok (.iconst 4, 1) := by decide +kernel
theorem dO_init_47 : decode cO_init 47 = .ok (.if_icmp .ge 102, 3) := by decide +kernel
theorem dO_init_50 : decode cO_init 50 = .ok (.aload 6, 2) := by decide +kernel
theorem dO_init_52 : decode cO_init 52 = .ok (.iload 7, 2) := by decide +kernel
theorem dO_init_54 : decode cO_init 54 = .ok (.aaload, 1) := by decide +kernel
theorem dO_init_55 : decode cO_init 55 = .ok (.astore 8, 2) := by decide +kernel
theorem dO_init_57 : decode cO_init 57 = .ok (.iload 7, 2) := by decide +kernel
theorem dO_init_59 : decode cO_init 59 = .ok (.iconst 3, 1) := by decide +kernel
theorem dO_init_60 : decode cO_init 60 = .ok (.imul, 1) := by decide +kernel
theorem dO_init_61 : decode cO_init 61 = .ok (.istore 9, 2) := by decide +kernel
theorem dO_init_63 : decode cO_init 63 = .ok (.aload_n 0, 1) := by decide +kernel
theorem dO_init_64 : decode cO_init 64 = .ok (.getfield 17, 3) := by decide +kernel
theorem dO_init_67 : decode cO_init 67 = .ok (.iload 9, 2) := by decide +kernel
theorem dO_init_69 : decode cO_init 69 = .ok (.aload 8, 2) := by decide +kernel
theorem dO_init_71 : decode cO_init 71 = .ok (.getfield 35, 3) := by decide +kernel
theorem dO_init_74 : decode cO_init 74 = .ok (.lastore, 1) := by decide +kernel
theorem dO_init_75 : decode cO_init 75 = .ok (.aload_n 0, 1) := by decide +kernel
theorem dO_init_76 : decode cO_init 76 = .ok (.getfield 17, 3) := by decide +kernel
theorem dO_init_79 : decode cO_init 79 = .ok (.iload 9, 2) := by decide +kernel
theorem dO_init_81 : decode cO_init 81 = .ok (.iconst 1, 1) := by decide +kernel
theorem dO_init_82 : decode cO_init 82 = .ok (.iadd, 1) := by decide +kernel
theorem dO_init_83 : decode cO_init 83 = .ok (.aload 8, 2) := by decide +kernel
theorem dO_init_85 : decode cO_init 85 = .ok (.getfield 40, 3) := by decide +kernel
theorem dO_init_88 : decode cO_init 88 = .ok (.lastore, 1) := by decide +kernel
theorem dO_init_89 : decode cO_init 89 = .ok (.aload_n 0, 1) := by decide +kernel
theorem dO_init_90 : decode cO_init 90 = .ok (.getfield 17, 3) := by decide +kernel
theorem dO_init_93 : decode cO_init 93 = .ok (.iload 9, 2) := by decide +kernel
theorem dO_init_95 : decode cO_init 95 = .ok (.iconst 2, 1) := by decide +kernel
theorem dO_init_96 : decode cO_init 96 = .ok (.iadd, 1) := by decide +kernel
theorem dO_init_97 : decode cO_init 97 = .ok (.aload 8, 2) := by decide +kernel
theorem dO_init_99 : decode cO_init 99 = .ok (.getfield 43, 3) := by decide +kernel
theorem dO_init_102 : decode cO_init 102 = .ok (.lastore, 1) := by decide +kernel
theorem dO_init_103 : decode cO_init 103 = .ok (.aload_n 0, 1) := by decide +kernel
theorem dO_init_104 : decode cO_init 104 = .ok (.getfield 21, 3) := by decide +kernel
theorem dO_init_107 : decode cO_init 107 = .ok (.iload 9, 2) := by decide +kernel
theorem dO_init_109 : decode cO_init 109 = .ok (.aload 8, 2) := by decide +kernel
theorem dO_init_111 : decode cO_init 111 = .ok (.getfield 46, 3) := by decide +kernel
theorem dO_init_114 : decode cO_init 114 = .ok (.lastore, 1) := by decide +kernel
theorem dO_init_115 : decode cO_init 115 = .ok (.aload_n 0, 1) := by decide +kernel
theorem dO_init_116 : decode cO_init 116 = .ok (.getfield 21, 3) := by decide +kernel
theorem dO_init_119 : decode cO_init 119 = .ok (.iload 9, 2) := by decide +kernel
theorem dO_init_121 : decode cO_init 121 = .ok (.iconst 1, 1) := by decide +kernel
theorem dO_init_122 : decode cO_init 122 = .ok (.iadd, 1) := by decide +kernel
theorem dO_init_123 : decode cO_init 123 = .ok (.aload 8, 2) := by decide +kernel
theorem dO_init_125 : decode cO_init 125 = .ok (.getfield 49, 3) := by decide +kernel
theorem dO_init_128 : decode cO_init 128 = .ok (.lastore, 1) := by decide +kernel
theorem dO_init_129 : decode cO_init 129 = .ok (.aload_n 0, 1) := by decide +kernel
theorem dO_init_130 : decode cO_init 130 = .ok (.getfield 21, 3) := by decide +kernel
theorem dO_init_133 : decode cO_init 133 = .ok (.iload 9, 2) := by decide +kernel
theorem dO_init_135 : decode cO_init 135 = .ok (.iconst 2, 1) := by decide +kernel
theorem dO_init_136 : decode cO_init 136 = .ok (.iadd, 1) := by decide +kernel
theorem dO_init_137 : decode cO_init 137 = .ok (.aload 8, 2) := by decide +kernel
theorem dO_init_139 : decode cO_init 139 = .ok (.getfield 52, 3) := by decide +kernel
theorem dO_init_142 : decode cO_init 142 = .ok (.lastore, 1) := by decide +kernel
theorem dO_init_143 : decode cO_init 143 = .ok (.iinc 7 1, 3) := by decide +kernel
theorem dO_init_146 : decode cO_init 146 = .ok (.goto (-102), 3) := by decide +kernel
theorem dO_init_149 : decode cO_init 149 = .ok (.return_, 1) := by decide +kernel
abbrev yA_keep : MethodName := { cls := "BlindMint$Account", name := "keep", desc := "(LBlindMint$Coin;)I" }
abbrev cA_keep : ByteArray := prog_2_method_3_code
theorem dA_keep_0 : decode cA_keep 0 = .ok (.aload_n 0, 1) := by decide +kernel
theorem dA_keep_1 : decode cA_keep 1 = .ok (.getfield 17, 3) := by decide +kernel
theorem dA_keep_4 : decode cA_keep 4 = .ok (.aload_n 0, 1) := by decide +kernel
theorem dA_keep_5 : decode cA_keep 5 = .ok (.getfield 21, 3) := by decide +kernel
theorem dA_keep_8 : decode cA_keep 8 = .ok (.aload_n 1, 1) := by decide +kernel
theorem dA_keep_9 : decode cA_keep 9 = .ok (.aastore, 1) := by decide +kernel
theorem dA_keep_10 : decode cA_keep 10 = .ok (.aload_n 0, 1) := by decide +kernel
theorem dA_keep_11 : decode cA_keep 11 = .ok (.dup, 1) := by decide +kernel
theorem dA_keep_12 : decode cA_keep 12 = .ok (.getfield 21, 3) := by decide +kernel
theorem dA_keep_15 : decode cA_keep 15 = .ok (.iconst 1, 1) := by decide +kernel
theorem dA_keep_16 : decode cA_keep 16 = .ok (.iadd, 1) := by decide +kernel
theorem dA_keep_17 : decode cA_keep 17 = .ok (.putfield 21, 3) := by decide +kernel
theorem dA_keep_20 : decode cA_keep 20 = .ok (.aload_n 0, 1) := by decide +kernel
theorem dA_keep_21 : decode cA_keep 21 = .ok (.getfield 21, 3) := by decide +kernel
theorem dA_keep_24 : decode cA_keep 24 = .ok (.iconst 1, 1) := by decide +kernel
theorem dA_keep_25 : decode cA_keep 25 = .ok (.isub, 1) := by decide +kernel
theorem dA_keep_26 : decode cA_keep 26 = .ok (.ireturn, 1) := by decide +kernel
abbrev yA_hasUnspent : MethodName := { cls := "BlindMint$Account", name := "hasUnspent", desc := "(II)Z" }
abbrev cA_hasUnspent : ByteArray := prog_2_method_4_code
theorem dA_hasUnspent_0 : decode cA_hasUnspent 0 = .ok (.aload_n 0, 1) := by decide +kernel
theorem dA_hasUnspent_1 : decode cA_hasUnspent 1 = .ok (.getfield 17, 3) := by decide +kernel
theorem dA_hasUnspent_4 : decode cA_hasUnspent 4 = .ok (.iload_n 1, 1) := by decide +kernel
theorem dA_hasUnspent_5 : decode cA_hasUnspent 5 = .ok (.aaload, 1) := by decide +kernel
theorem dA_hasUnspent_6 : decode cA_hasUnspent 6 = .ok (.getfield 24, 3) := by decide +kernel
theorem dA_hasUnspent_9 : decode cA_hasUnspent 9 = .ok (.iload_n 2, 1) := by decide +kernel
theorem dA_hasUnspent_10 : decode cA_hasUnspent 10 = .ok (.if_icmp .ne 19, 3) := by decide +kernel
theorem dA_hasUnspent_13 : decode cA_hasUnspent 13 = .ok (.aload_n 0, 1) := by decide +kernel
theorem dA_hasUnspent_14 : decode cA_hasUnspent 14 = .ok (.getfield 17, 3) := by decide +kernel
theorem dA_hasUnspent_17 : decode cA_hasUnspent 17 = .ok (.iload_n 1, 1) := by decide +kernel
theorem dA_hasUnspent_18 : decode cA_hasUnspent 18 = .ok (.aaload, 1) := by decide +kernel
theorem dA_hasUnspent_19 : decode cA_hasUnspent 19 = .ok (.getfield 27, 3) := by decide +kernel
theorem dA_hasUnspent_22 : decode cA_hasUnspent 22 = .ok (.ifCond .ne 7, 3) := by decide +kernel
theorem dA_hasUnspent_25 : decode cA_hasUnspent 25 = .ok (.iconst 1, 1) := by decide +kernel
theorem dA_hasUnspent_26 : decode cA_hasUnspent 26 = .ok (.goto 4, 3) := by decide +kernel
theorem dA_hasUnspent_29 : decode cA_hasUnspent 29 = .ok (.iconst 0, 1) := by decide +kernel
theorem dA_hasUnspent_30 : decode cA_hasUnspent 30 = .ok (.ireturn, 1) := by decide +kernel
abbrev yP_init : MethodName := { cls := "BlindMint$Payment", name := "<init>", desc := "(LBlindMint$Coin;II)V" }
abbrev cP_init : ByteArray := prog_9_method_1_code
theorem dP_init_0 : decode cP_init 0 = .ok (.aload_n 0, 1) := by decide +kernel
theorem dP_init_1 : decode cP_init 1 = .ok (.invokespecial 5, 3) := by decide +kernel
theorem dP_init_4 : decode cP_init 4 = .ok (.aload_n 0, 1) := by decide +kernel
theorem dP_init_5 : decode cP_init 5 = .ok (.bipush 16, 2) := by decide +kernel
theorem dP_init_7 : decode cP_init 7 = .ok (.newarray .long, 2) := by decide +kernel
theorem dP_init_9 : decode cP_init 9 = .ok (.putfield 11, 3) := by decide +kernel
theorem dP_init_12 : decode cP_init 12 = .ok (.aload_n 0, 1) := by decide +kernel
theorem dP_init_13 : decode cP_init 13 = .ok (.getfield 11, 3) := by decide +kernel
theorem dP_init_16 : decode cP_init 16 = .ok (.iconst 0, 1) := by decide +kernel
theorem dP_init_17 : decode cP_init 17 = .ok (.aload_n 1, 1) := by decide +kernel
theorem dP_init_18 : decode cP_init 18 = .ok (.getfield 15, 3) := by decide +kernel
theorem dP_init_21 : decode cP_init 21 = .ok (.i2l, 1) := by decide +kernel
theorem dP_init_22 : decode cP_init 22 = .ok (.lastore, 1) := by decide +kernel
theorem dP_init_23 : decode cP_init 23 = .ok (.aload_n 0, 1) := by decide +kernel
theorem dP_init_24 : decode cP_init 24 = .ok (.getfield 11, 3) := by decide +kernel
theorem dP_init_27 : decode cP_init 27 = .ok (.iconst 1, 1) := by decide +kernel
theorem dP_init_28 : decode cP_init 28 = .ok (.aload_n 1, 1) := by decide +kernel
theorem dP_init_29 : decode cP_init 29 = .ok (.getfield 21, 3) := by decide +kernel
theorem dP_init_32 : decode cP_init 32 = .ok (.lastore, 1) := by decide +kernel
theorem dP_init_33 : decode cP_init 33 = .ok (.aload_n 0, 1) := by decide +kernel
theorem dP_init_34 : decode cP_init 34 = .ok (.getfield 11, 3) := by decide +kernel
theorem dP_init_37 : decode cP_init 37 = .ok (.iconst 2, 1) := by decide +kernel
theorem dP_init_38 : decode cP_init 38 = .ok (.iload_n 2, 1) := by decide +kernel
theorem dP_init_39 : decode cP_init 39 = .ok (.i2l, 1) := by decide +kernel
theorem dP_init_40 : decode cP_init 40 = .ok (.lastore, 1) := by decide +kernel
theorem dP_init_41 : decode cP_init 41 = .ok (.aload_n 0, 1) := by decide +kernel
theorem dP_init_42 : decode cP_init 42 = .ok (.getfield 11, 3) := by decide +kernel
theorem dP_init_45 : decode cP_init 45 = .ok (.iconst 3, 1) := by decide +kernel
theorem dP_init_46 : decode cP_init 46 = .ok (.iload_n 3, 1) := by decide +kernel
theorem dP_init_47 : decode cP_init 47 = .ok (.i2l, 1) := by decide +kernel
theorem dP_init_48 : decode cP_init 48 = .ok (.lastore, 1) := by decide +kernel
theorem dP_init_49 : decode cP_init 49 = .ok (.aload_n 0, 1) := by decide +kernel
theorem dP_init_50 : decode cP_init 50 = .ok (.invokevirtual 25, 3) := by decide +kernel
theorem dP_init_53 : decode cP_init 53 = .ok (.lstore 4, 2) := by decide +kernel
theorem dP_init_55 : decode cP_init 55 = .ok (.iconst 0, 1) := by decide +kernel
theorem dP_init_56 : decode cP_init 56 = .ok (.istore 6, 2) := by decide +kernel
theorem dP_init_58 : decode cP_init 58 = .ok (.iload 6, 2) := by decide +kernel
theorem dP_init_60 : decode cP_init 60 = .ok (.iconst 4, 1) := by decide +kernel
theorem dP_init_61 : decode cP_init 61 = .ok (.if_icmp .ge 51, 3) := by decide +kernel
theorem dP_init_64 : decode cP_init 64 = .ok (.lload 4, 2) := by decide +kernel
theorem dP_init_66 : decode cP_init 66 = .ok (.iload 6, 2) := by decide +kernel
theorem dP_init_68 : decode cP_init 68 = .ok (.invokestatic 29, 3) := by decide +kernel
theorem dP_init_71 : decode cP_init 71 = .ok (.ifCond .eq 10, 3) := by decide +kernel
theorem dP_init_74 : decode cP_init 74 = .ok (.aload_n 1, 1) := by decide +kernel
theorem dP_init_75 : decode cP_init 75 = .ok (.getfield 33, 3) := by decide +kernel
theorem dP_init_78 : decode cP_init 78 = .ok (.goto 7, 3) := by decide +kernel
theorem dP_init_81 : decode cP_init 81 = .ok (.aload_n 1, 1) := by decide +kernel
theorem dP_init_82 : decode cP_init 82 = .ok (.getfield 36, 3) := by decide +kernel
theorem dP_init_85 : decode cP_init 85 = .ok (.astore 7, 2) := by decide +kernel
theorem dP_init_87 : decode cP_init 87 = .ok (.aload 7, 2) := by decide +kernel
theorem dP_init_89 : decode cP_init 89 = .ok (.iload 6, 2) := by decide +kernel
theorem dP_init_91 : decode cP_init 91 = .ok (.iconst 3, 1) := by decide +kernel
theorem dP_init_92 : decode cP_init 92 = .ok (.imul, 1) := by decide +kernel
theorem dP_init_93 : decode cP_init 93 = .ok (.aload_n 0, 1) := by decide +kernel
theorem dP_init_94 : decode cP_init 94 = .ok (.getfield 11, 3) := by decide +kernel
theorem dP_init_97 : decode cP_init 97 = .ok (.iload 6, 2) := by decide +kernel
theorem dP_init_99 : decode cP_init 99 = .ok (.invokestatic 39, 3) := by decide +kernel
theorem dP_init_102 : decode cP_init 102 = .ok (.iconst 3, 1) := by decide +kernel
theorem dP_init_103 : decode cP_init 103 = .ok (.invokestatic 43, 3) := by decide +kernel
theorem dP_init_106 : decode cP_init 106 = .ok (.iinc 6 1, 3) := by decide +kernel
theorem dP_init_109 : decode cP_init 109 = .ok (.goto (-51), 3) := by decide +kernel
theorem dP_init_112 : decode cP_init 112 = .ok (.return_, 1) := by decide +kernel
abbrev yP_hasNumber : MethodName := { cls := "BlindMint$Payment", name := "hasNumber", desc := "(I)Z" }
abbrev cP_hasNumber : ByteArray := prog_9_method_2_code
theorem dP_hasNumber_0 : decode cP_hasNumber 0 = .ok (.iload_n 0, 1) := by decide +kernel
theorem dP_hasNumber_1 : decode cP_hasNumber 1 = .ok (.ifCond .lt 13, 3) := by decide +kernel
theorem dP_hasNumber_4 : decode cP_hasNumber 4 = .ok (.iload_n 0, 1) := by decide +kernel
theorem dP_hasNumber_5 : decode cP_hasNumber 5 = .ok (.bipush 16, 2) := by decide +kernel
theorem dP_hasNumber_7 : decode cP_hasNumber 7 = .ok (.if_icmp .ge 7, 3) := by decide +kernel
theorem dP_hasNumber_10 : decode cP_hasNumber 10 = .ok (.iconst 1, 1) := by decide +kernel
theorem dP_hasNumber_11 : decode cP_hasNumber 11 = .ok (.goto 4, 3) := by decide +kernel
theorem dP_hasNumber_14 : decode cP_hasNumber 14 = .ok (.iconst 0, 1) := by decide +kernel
theorem dP_hasNumber_15 : decode cP_hasNumber 15 = .ok (.ireturn, 1) := by decide +kernel
abbrev yR_isOf : MethodName := { cls := "BlindMint$Credit", name := "isOf", desc := "(J[J)Z" }
abbrev cR_isOf : ByteArray := prog_5_method_2_code
theorem dR_isOf_0 : decode cR_isOf 0 = .ok (.aload_n 0, 1) := by decide +kernel
theorem dR_isOf_1 : decode cR_isOf 1 = .ok (.getfield 21, 3) := by decide +kernel
theorem dR_isOf_4 : decode cR_isOf 4 = .ok (.lload_n 1, 1) := by decide +kernel
theorem dR_isOf_5 : decode cR_isOf 5 = .ok (.lcmp, 1) := by decide +kernel
theorem dR_isOf_6 : decode cR_isOf 6 = .ok (.ifCond .ne 7, 3) := by decide +kernel
theorem dR_isOf_9 : decode cR_isOf 9 = .ok (.iconst 1, 1) := by decide +kernel
theorem dR_isOf_10 : decode cR_isOf 10 = .ok (.goto 4, 3) := by decide +kernel
theorem dR_isOf_13 : decode cR_isOf 13 = .ok (.iconst 0, 1) := by decide +kernel
theorem dR_isOf_14 : decode cR_isOf 14 = .ok (.istore 4, 2) := by decide +kernel
theorem dR_isOf_16 : decode cR_isOf 16 = .ok (.iconst 0, 1) := by decide +kernel
theorem dR_isOf_17 : decode cR_isOf 17 = .ok (.istore 5, 2) := by decide +kernel
theorem dR_isOf_19 : decode cR_isOf 19 = .ok (.iload 5, 2) := by decide +kernel
theorem dR_isOf_21 : decode cR_isOf 21 = .ok (.iconst 4, 1) := by decide +kernel
theorem dR_isOf_22 : decode cR_isOf 22 = .ok (.if_icmp .ge 36, 3) := by decide +kernel
theorem dR_isOf_25 : decode cR_isOf 25 = .ok (.iload 4, 2) := by decide +kernel
theorem dR_isOf_27 : decode cR_isOf 27 = .ok (.ifCond .eq 22, 3) := by decide +kernel
theorem dR_isOf_30 : decode cR_isOf 30 = .ok (.aload_n 0, 1) := by decide +kernel
theorem dR_isOf_31 : decode cR_isOf 31 = .ok (.getfield 24, 3) := by decide +kernel
theorem dR_isOf_34 : decode cR_isOf 34 = .ok (.iload 5, 2) := by decide +kernel
theorem dR_isOf_36 : decode cR_isOf 36 = .ok (.laload, 1) := by decide +kernel
theorem dR_isOf_37 : decode cR_isOf 37 = .ok (.aload_n 3, 1) := by decide +kernel
theorem dR_isOf_38 : decode cR_isOf 38 = .ok (.iload 5, 2) := by decide +kernel
theorem dR_isOf_40 : decode cR_isOf 40 = .ok (.laload, 1) := by decide +kernel
theorem dR_isOf_41 : decode cR_isOf 41 = .ok (.lcmp, 1) := by decide +kernel
theorem dR_isOf_42 : decode cR_isOf 42 = .ok (.ifCond .ne 7, 3) := by decide +kernel
theorem dR_isOf_45 : decode cR_isOf 45 = .ok (.iconst 1, 1) := by decide +kernel
theorem dR_isOf_46 : decode cR_isOf 46 = .ok (.goto 4, 3) := by decide +kernel
theorem dR_isOf_49 : decode cR_isOf 49 = .ok (.iconst 0, 1) := by decide +kernel
theorem dR_isOf_50 : decode cR_isOf 50 = .ok (.istore 4, 2) := by decide +kernel
theorem dR_isOf_52 : decode cR_isOf 52 = .ok (.iinc 5 1, 3) := by decide +kernel
theorem dR_isOf_55 : decode cR_isOf 55 = .ok (.goto (-36), 3) := by decide +kernel
theorem dR_isOf_58 : decode cR_isOf 58 = .ok (.iload 4, 2) := by decide +kernel
theorem dR_isOf_60 : decode cR_isOf 60 = .ok (.ireturn, 1) := by decide +kernel
abbrev yR_revealedIdentity : MethodName := { cls := "BlindMint$Credit", name := "revealedIdentity", desc := "(LBlindMint$Payment;)J" }
abbrev cR_revealedIdentity : ByteArray := prog_5_method_3_code
theorem dR_revealedIdentity_0 : decode cR_revealedIdentity 0 = .ok (.aload_n 0, 1) := by decide +kernel
theorem dR_revealedIdentity_1 : decode cR_revealedIdentity 1 = .ok (.getfield 30, 3) := by decide +kernel
theorem dR_revealedIdentity_4 : decode cR_revealedIdentity 4 = .ok (.aload_n 1, 1) := by decide +kernel
theorem dR_revealedIdentity_5 : decode cR_revealedIdentity 5 = .ok (.invokevirtual 27, 3) := by decide +kernel
theorem dR_revealedIdentity_8 : decode cR_revealedIdentity 8 = .ok (.lxor, 1) := by decide +kernel
theorem dR_revealedIdentity_9 : decode cR_revealedIdentity 9 = .ok (.lstore_n 2, 1) := by decide +kernel
theorem dR_revealedIdentity_10 : decode cR_revealedIdentity 10 = .ok (.iconst 0, 1) := by decide +kernel
theorem dR_revealedIdentity_11 : decode cR_revealedIdentity 11 = .ok (.istore 4, 2) := by decide +kernel
theorem dR_revealedIdentity_13 : decode cR_revealedIdentity 13 = .ok (.iload 4, 2) := by decide +kernel
theorem dR_revealedIdentity_15 : decode cR_revealedIdentity 15 = .ok (.iconst 4, 1) := by decide +kernel
theorem dR_revealedIdentity_16 : decode cR_revealedIdentity 16 = .ok (.if_icmp .ge 33, 3) := by decide +kernel
theorem dR_revealedIdentity_19 : decode cR_revealedIdentity 19 = .ok (.lload_n 2, 1) := by decide +kernel
theorem dR_revealedIdentity_20 : decode cR_revealedIdentity 20 = .ok (.iload 4, 2) := by decide +kernel
theorem dR_revealedIdentity_22 : decode cR_revealedIdentity 22 = .ok (.invokestatic 40, 3) := by decide +kernel
theorem dR_revealedIdentity_25 : decode cR_revealedIdentity 25 = .ok (.ifCond .eq 18, 3) := by decide +kernel
theorem dR_revealedIdentity_28 : decode cR_revealedIdentity 28 = .ok (.aload_n 0, 1) := by decide +kernel
theorem dR_revealedIdentity_29 : decode cR_revealedIdentity 29 = .ok (.getfield 9, 3) := by decide +kernel
theorem dR_revealedIdentity_32 : decode cR_revealedIdentity 32 = .ok (.iload 4, 2) := by decide +kernel
theorem dR_revealedIdentity_34 : decode cR_revealedIdentity 34 = .ok (.laload, 1) := by decide +kernel
theorem dR_revealedIdentity_35 : decode cR_revealedIdentity 35 = .ok (.aload_n 1, 1) := by decide +kernel
theorem dR_revealedIdentity_36 : decode cR_revealedIdentity 36 = .ok (.iload 4, 2) := by decide +kernel
theorem dR_revealedIdentity_38 : decode cR_revealedIdentity 38 = .ok (.invokevirtual 32, 3) := by decide +kernel
theorem dR_revealedIdentity_41 : decode cR_revealedIdentity 41 = .ok (.lxor, 1) := by decide +kernel
theorem dR_revealedIdentity_42 : decode cR_revealedIdentity 42 = .ok (.lreturn, 1) := by decide +kernel
theorem dR_revealedIdentity_43 : decode cR_revealedIdentity 43 = .ok (.iinc 4 1, 3) := by decide +kernel
theorem dR_revealedIdentity_46 : decode cR_revealedIdentity 46 = .ok (.goto (-33), 3) := by decide +kernel
theorem dR_revealedIdentity_49 : decode cR_revealedIdentity 49 = .ok (.ldc2_w 44, 3) := by decide +kernel
theorem dR_revealedIdentity_52 : decode cR_revealedIdentity 52 = .ok (.lreturn, 1) := by decide +kernel
abbrev yP_half : MethodName := { cls := "BlindMint$Payment", name := "half", desc := "(I)J" }
abbrev cP_half : ByteArray := prog_9_method_6_code
theorem dP_half_0 : decode cP_half 0 = .ok (.aload_n 0, 1) := by decide +kernel
theorem dP_half_1 : decode cP_half 1 = .ok (.getfield 11, 3) := by decide +kernel
theorem dP_half_4 : decode cP_half 4 = .ok (.iload_n 1, 1) := by decide +kernel
theorem dP_half_5 : decode cP_half 5 = .ok (.invokestatic 39, 3) := by decide +kernel
theorem dP_half_8 : decode cP_half 8 = .ok (.laload, 1) := by decide +kernel
theorem dP_half_9 : decode cP_half 9 = .ok (.lreturn, 1) := by decide +kernel
abbrev yR_init : MethodName := { cls := "BlindMint$Credit", name := "<init>", desc := "(LBlindMint$Payment;[JLBlindMint$Credit;)V" }
abbrev cR_init : ByteArray := prog_5_method_1_code
theorem dR_init_0 : decode cR_init 0 = .ok (.aload_n 0, 1) := by decide +kernel
theorem dR_init_1 : decode cR_init 1 = .ok (.invokespecial 3, 3) := by decide +kernel
theorem dR_init_4 : decode cR_init 4 = .ok (.aload_n 0, 1) := by decide +kernel
theorem dR_init_5 : decode cR_init 5 = .ok (.iconst 4, 1) := by decide +kernel
theorem dR_init_6 : decode cR_init 6 = .ok (.newarray .long, 2) := by decide +kernel
theorem dR_init_8 : decode cR_init 8 = .ok (.putfield 9, 3) := by decide +kernel
theorem dR_init_11 : decode cR_init 11 = .ok (.aload_n 0, 1) := by decide +kernel
theorem dR_init_12 : decode cR_init 12 = .ok (.aload_n 1, 1) := by decide +kernel
theorem dR_init_13 : decode cR_init 13 = .ok (.invokevirtual 15, 3) := by decide +kernel
theorem dR_init_16 : decode cR_init 16 = .ok (.putfield 21, 3) := by decide +kernel
theorem dR_init_19 : decode cR_init 19 = .ok (.aload_n 0, 1) := by decide +kernel
theorem dR_init_20 : decode cR_init 20 = .ok (.aload_n 2, 1) := by decide +kernel
theorem dR_init_21 : decode cR_init 21 = .ok (.putfield 24, 3) := by decide +kernel
theorem dR_init_24 : decode cR_init 24 = .ok (.aload_n 0, 1) := by decide +kernel
theorem dR_init_25 : decode cR_init 25 = .ok (.aload_n 1, 1) := by decide +kernel
theorem dR_init_26 : decode cR_init 26 = .ok (.invokevirtual 27, 3) := by decide +kernel
theorem dR_init_29 : decode cR_init 29 = .ok (.putfield 30, 3) := by decide +kernel
theorem dR_init_32 : decode cR_init 32 = .ok (.iconst 0, 1) := by decide +kernel
theorem dR_init_33 : decode cR_init 33 = .ok (.istore 4, 2) := by decide +kernel
theorem dR_init_35 : decode cR_init 35 = .ok (.iload 4, 2) := by decide +kernel
theorem dR_init_37 : decode cR_init 37 = .ok (.iconst 4, 1) := by decide +kernel
theorem dR_init_38 : decode cR_init 38 = .ok (.if_icmp .ge 22, 3) := by decide +kernel
theorem dR_init_41 : decode cR_init 41 = .ok (.aload_n 0, 1) := by decide +kernel
theorem dR_init_42 : decode cR_init 42 = .ok (.getfield 9, 3) := by decide +kernel
theorem dR_init_45 : decode cR_init 45 = .ok (.iload 4, 2) := by decide +kernel
theorem dR_init_47 : decode cR_init 47 = .ok (.aload_n 1, 1) := by decide +kernel
theorem dR_init_48 : decode cR_init 48 = .ok (.iload 4, 2) := by decide +kernel
theorem dR_init_50 : decode cR_init 50 = .ok (.invokevirtual 32, 3) := by decide +kernel
theorem dR_init_53 : decode cR_init 53 = .ok (.lastore, 1) := by decide +kernel
theorem dR_init_54 : decode cR_init 54 = .ok (.iinc 4 1, 3) := by decide +kernel
theorem dR_init_57 : decode cR_init 57 = .ok (.goto (-22), 3) := by decide +kernel
theorem dR_init_60 : decode cR_init 60 = .ok (.aload_n 0, 1) := by decide +kernel
theorem dR_init_61 : decode cR_init 61 = .ok (.aload_n 3, 1) := by decide +kernel
theorem dR_init_62 : decode cR_init 62 = .ok (.putfield 36, 3) := by decide +kernel
theorem dR_init_65 : decode cR_init 65 = .ok (.return_, 1) := by decide +kernel
end
section
abbrev yB_init : MethodName := { cls := "BlindMint", name := "<init>", desc := "()V" }
abbrev cB_init : ByteArray := prog_1_method_1_code
theorem dB_init_0 : decode cB_init 0 = .ok (.aload_n 0, 1) := by decide +kernel
theorem dB_init_1 : decode cB_init 1 = .ok (.invokespecial 3, 3) := by decide +kernel
theorem dB_init_4 : decode cB_init 4 = .ok (.aload_n 0, 1) := by decide +kernel
theorem dB_init_5 : decode cB_init 5 = .ok (.iconst 4, 1) := by decide +kernel
theorem dB_init_6 : decode cB_init 6 = .ok (.anewarray 9, 3) := by decide +kernel
theorem dB_init_9 : decode cB_init 9 = .ok (.putfield 11, 3) := by decide +kernel
theorem dB_init_12 : decode cB_init 12 = .ok (.aload_n 0, 1) := by decide +kernel
theorem dB_init_13 : decode cB_init 13 = .ok (.new 15, 3) := by decide +kernel
theorem dB_init_16 : decode cB_init 16 = .ok (.dup, 1) := by decide +kernel
theorem dB_init_17 : decode cB_init 17 = .ok (.invokespecial 17, 3) := by decide +kernel
theorem dB_init_20 : decode cB_init 20 = .ok (.putfield 18, 3) := by decide +kernel
theorem dB_init_23 : decode cB_init 23 = .ok (.aload_n 0, 1) := by decide +kernel
theorem dB_init_24 : decode cB_init 24 = .ok (.bipush 20, 2) := by decide +kernel
theorem dB_init_26 : decode cB_init 26 = .ok (.anewarray 22, 3) := by decide +kernel
theorem dB_init_29 : decode cB_init 29 = .ok (.putfield 24, 3) := by decide +kernel
theorem dB_init_32 : decode cB_init 32 = .ok (.aload_n 0, 1) := by decide +kernel
theorem dB_init_33 : decode cB_init 33 = .ok (.iconst 0, 1) := by decide +kernel
theorem dB_init_34 : decode cB_init 34 = .ok (.putfield 28, 3) := by decide +kernel
theorem dB_init_37 : decode cB_init 37 = .ok (.aload_n 0, 1) := by decide +kernel
theorem dB_init_38 : decode cB_init 38 = .ok (.iconst 4, 1) := by decide +kernel
theorem dB_init_39 : decode cB_init 39 = .ok (.newarray .long, 2) := by decide +kernel
theorem dB_init_41 : decode cB_init 41 = .ok (.putfield 32, 3) := by decide +kernel
theorem dB_init_44 : decode cB_init 44 = .ok (.aload_n 0, 1) := by decide +kernel
theorem dB_init_45 : decode cB_init 45 = .ok (.aconst_null, 1) := by decide +kernel
theorem dB_init_46 : decode cB_init 46 = .ok (.putfield 36, 3) := by decide +kernel
theorem dB_init_49 : decode cB_init 49 = .ok (.aload_n 0, 1) := by decide +kernel
theorem dB_init_50 : decode cB_init 50 = .ok (.iconst (-1), 1) := by decide +kernel
theorem dB_init_51 : decode cB_init 51 = .ok (.putfield 40, 3) := by decide +kernel
theorem dB_init_54 : decode cB_init 54 = .ok (.aload_n 0, 1) := by decide +kernel
theorem dB_init_55 : decode cB_init 55 = .ok (.ldc2_w 43, 3) := by decide +kernel
theorem dB_init_58 : decode cB_init 58 = .ok (.putfield 45, 3) := by decide +kernel
theorem dB_init_61 : decode cB_init 61 = .ok (.aload_n 0, 1) := by decide +kernel
theorem dB_init_62 : decode cB_init 62 = .ok (.iconst 0, 1) := by decide +kernel
theorem dB_init_63 : decode cB_init 63 = .ok (.putfield 49, 3) := by decide +kernel
theorem dB_init_66 : decode cB_init 66 = .ok (.aload_n 0, 1) := by decide +kernel
theorem dB_init_67 : decode cB_init 67 = .ok (.iconst 0, 1) := by decide +kernel
theorem dB_init_68 : decode cB_init 68 = .ok (.putfield 52, 3) := by decide +kernel
theorem dB_init_71 : decode cB_init 71 = .ok (.aload_n 0, 1) := by decide +kernel
theorem dB_init_72 : decode cB_init 72 = .ok (.iconst 0, 1) := by decide +kernel
theorem dB_init_73 : decode cB_init 73 = .ok (.putfield 55, 3) := by decide +kernel
theorem dB_init_76 : decode cB_init 76 = .ok (.aload_n 0, 1) := by decide +kernel
theorem dB_init_77 : decode cB_init 77 = .ok (.iconst 0, 1) := by decide +kernel
theorem dB_init_78 : decode cB_init 78 = .ok (.putfield 58, 3) := by decide +kernel
theorem dB_init_81 : decode cB_init 81 = .ok (.iconst 0, 1) := by decide +kernel
theorem dB_init_82 : decode cB_init 82 = .ok (.istore_n 1, 1) := by decide +kernel
theorem dB_init_83 : decode cB_init 83 = .ok (.iload_n 1, 1) := by decide +kernel
theorem dB_init_84 : decode cB_init 84 = .ok (.iconst 4, 1) := by decide +kernel
theorem dB_init_85 : decode cB_init 85 = .ok (.if_icmp .ge 22, 3) := by decide +kernel
theorem dB_init_88 : decode cB_init 88 = .ok (.aload_n 0, 1) := by decide +kernel
theorem dB_init_89 : decode cB_init 89 = .ok (.getfield 11, 3) := by decide +kernel
theorem dB_init_92 : decode cB_init 92 = .ok (.iload_n 1, 1) := by decide +kernel
theorem dB_init_93 : decode cB_init 93 = .ok (.new 9, 3) := by decide +kernel
theorem dB_init_96 : decode cB_init 96 = .ok (.dup, 1) := by decide +kernel
theorem dB_init_97 : decode cB_init 97 = .ok (.invokespecial 61, 3) := by decide +kernel
theorem dB_init_100 : decode cB_init 100 = .ok (.aastore, 1) := by decide +kernel
theorem dB_init_101 : decode cB_init 101 = .ok (.iinc 1 1, 3) := by decide +kernel
theorem dB_init_104 : decode cB_init 104 = .ok (.goto (-21), 3) := by decide +kernel
theorem dB_init_107 : decode cB_init 107 = .ok (.return_, 1) := by decide +kernel
abbrev yB_good : MethodName := { cls := "BlindMint", name := "good", desc := "(I)Z" }
abbrev cB_good : ByteArray := prog_1_method_7_code
theorem dB_good_0 : decode cB_good 0 = .ok (.aload_n 0, 1) := by decide +kernel
theorem dB_good_1 : decode cB_good 1 = .ok (.iload_n 1, 1) := by decide +kernel
theorem dB_good_2 : decode cB_good 2 = .ok (.invokevirtual 131, 3) := by decide +kernel
theorem dB_good_5 : decode cB_good 5 = .ok (.astore_n 2, 1) := by decide +kernel
theorem dB_good_6 : decode cB_good 6 = .ok (.aload_n 2, 1) := by decide +kernel
theorem dB_good_7 : decode cB_good 7 = .ok (.ifnull 15, 3) := by decide +kernel
theorem dB_good_10 : decode cB_good 10 = .ok (.aload_n 0, 1) := by decide +kernel
theorem dB_good_11 : decode cB_good 11 = .ok (.aload_n 2, 1) := by decide +kernel
theorem dB_good_12 : decode cB_good 12 = .ok (.invokevirtual 141, 3) := by decide +kernel
theorem dB_good_15 : decode cB_good 15 = .ok (.ifCond .eq 7, 3) := by decide +kernel
theorem dB_good_18 : decode cB_good 18 = .ok (.iconst 1, 1) := by decide +kernel
theorem dB_good_19 : decode cB_good 19 = .ok (.goto 4, 3) := by decide +kernel
theorem dB_good_22 : decode cB_good 22 = .ok (.iconst 0, 1) := by decide +kernel
theorem dB_good_23 : decode cB_good 23 = .ok (.ireturn, 1) := by decide +kernel
abbrev yB_findPayment : MethodName := { cls := "BlindMint", name := "findPayment", desc := "(I)LBlindMint$Payment;" }
abbrev cB_findPayment : ByteArray := prog_1_method_21_code
theorem dB_findPayment_0 : decode cB_findPayment 0 = .ok (.iload_n 1, 1) := by decide +kernel
theorem dB_findPayment_1 : decode cB_findPayment 1 = .ok (.ifCond .lt 20, 3) := by decide +kernel
theorem dB_findPayment_4 : decode cB_findPayment 4 = .ok (.iload_n 1, 1) := by decide +kernel
theorem dB_findPayment_5 : decode cB_findPayment 5 = .ok (.aload_n 0, 1) := by decide +kernel
theorem dB_findPayment_6 : decode cB_findPayment 6 = .ok (.getfield 28, 3) := by decide +kernel
theorem dB_findPayment_9 : decode cB_findPayment 9 = .ok (.if_icmp .ge 12, 3) := by decide +kernel
theorem dB_findPayment_12 : decode cB_findPayment 12 = .ok (.aload_n 0, 1) := by decide +kernel
theorem dB_findPayment_13 : decode cB_findPayment 13 = .ok (.getfield 24, 3) := by decide +kernel
theorem dB_findPayment_16 : decode cB_findPayment 16 = .ok (.iload_n 1, 1) := by decide +kernel
theorem dB_findPayment_17 : decode cB_findPayment 17 = .ok (.aaload, 1) := by decide +kernel
theorem dB_findPayment_18 : decode cB_findPayment 18 = .ok (.goto 4, 3) := by decide +kernel
theorem dB_findPayment_21 : decode cB_findPayment 21 = .ok (.aconst_null, 1) := by decide +kernel
theorem dB_findPayment_22 : decode cB_findPayment 22 = .ok (.areturn, 1) := by decide +kernel
abbrev yB_isGood : MethodName := { cls := "BlindMint", name := "isGood", desc := "(LBlindMint$Payment;)Z" }
abbrev cB_isGood : ByteArray := prog_1_method_23_code
theorem dB_isGood_0 : decode cB_isGood 0 = .ok (.aload_n 1, 1) := by decide +kernel
theorem dB_isGood_1 : decode cB_isGood 1 = .ok (.invokevirtual 145, 3) := by decide +kernel
theorem dB_isGood_4 : decode cB_isGood 4 = .ok (.invokestatic 66, 3) := by decide +kernel
theorem dB_isGood_7 : decode cB_isGood 7 = .ok (.ifCond .ne 5, 3) := by decide +kernel
theorem dB_isGood_10 : decode cB_isGood 10 = .ok (.iconst 0, 1) := by decide +kernel
theorem dB_isGood_11 : decode cB_isGood 11 = .ok (.ireturn, 1) := by decide +kernel
theorem dB_isGood_12 : decode cB_isGood 12 = .ok (.aload_n 1, 1) := by decide +kernel
theorem dB_isGood_13 : decode cB_isGood 13 = .ok (.aload_n 0, 1) := by decide +kernel
theorem dB_isGood_14 : decode cB_isGood 14 = .ok (.getfield 32, 3) := by decide +kernel
theorem dB_isGood_17 : decode cB_isGood 17 = .ok (.invokevirtual 220, 3) := by decide +kernel
theorem dB_isGood_20 : decode cB_isGood 20 = .ok (.iconst 1, 1) := by decide +kernel
theorem dB_isGood_21 : decode cB_isGood 21 = .ok (.istore_n 2, 1) := by decide +kernel
theorem dB_isGood_22 : decode cB_isGood 22 = .ok (.iload_n 2, 1) := by decide +kernel
theorem dB_isGood_23 : decode cB_isGood 23 = .ok (.iconst 4, 1) := by decide +kernel
theorem dB_isGood_24 : decode cB_isGood 24 = .ok (.if_icmp .ge 29, 3) := by decide +kernel
theorem dB_isGood_27 : decode cB_isGood 27 = .ok (.aload_n 0, 1) := by decide +kernel
theorem dB_isGood_28 : decode cB_isGood 28 = .ok (.getfield 32, 3) := by decide +kernel
theorem dB_isGood_31 : decode cB_isGood 31 = .ok (.iload_n 2, 1) := by decide +kernel
theorem dB_isGood_32 : decode cB_isGood 32 = .ok (.laload, 1) := by decide +kernel
theorem dB_isGood_33 : decode cB_isGood 33 = .ok (.aload_n 0, 1) := by decide +kernel
theorem dB_isGood_34 : decode cB_isGood 34 = .ok (.getfield 32, 3) := by decide +kernel
theorem dB_isGood_37 : decode cB_isGood 37 = .ok (.iload_n 2, 1) := by decide +kernel
theorem dB_isGood_38 : decode cB_isGood 38 = .ok (.iconst 1, 1) := by decide +kernel
theorem dB_isGood_39 : decode cB_isGood 39 = .ok (.isub, 1) := by decide +kernel
theorem dB_isGood_40 : decode cB_isGood 40 = .ok (.laload, 1) := by decide +kernel
theorem dB_isGood_41 : decode cB_isGood 41 = .ok (.lcmp, 1) := by decide +kernel
theorem dB_isGood_42 : decode cB_isGood 42 = .ok (.ifCond .ge 5, 3) := by decide +kernel
theorem dB_isGood_45 : decode cB_isGood 45 = .ok (.iconst 0, 1) := by decide +kernel
theorem dB_isGood_46 : decode cB_isGood 46 = .ok (.ireturn, 1) := by decide +kernel
theorem dB_isGood_47 : decode cB_isGood 47 = .ok (.iinc 2 1, 3) := by decide +kernel
theorem dB_isGood_50 : decode cB_isGood 50 = .ok (.goto (-28), 3) := by decide +kernel
theorem dB_isGood_53 : decode cB_isGood 53 = .ok (.aload_n 1, 1) := by decide +kernel
theorem dB_isGood_54 : decode cB_isGood 54 = .ok (.invokevirtual 145, 3) := by decide +kernel
theorem dB_isGood_57 : decode cB_isGood 57 = .ok (.aload_n 0, 1) := by decide +kernel
theorem dB_isGood_58 : decode cB_isGood 58 = .ok (.getfield 32, 3) := by decide +kernel
theorem dB_isGood_61 : decode cB_isGood 61 = .ok (.invokestatic 188, 3) := by decide +kernel
theorem dB_isGood_64 : decode cB_isGood 64 = .ok (.lstore_n 2, 1) := by decide +kernel
theorem dB_isGood_65 : decode cB_isGood 65 = .ok (.getstatic 73, 3) := by decide +kernel
theorem dB_isGood_68 : decode cB_isGood 68 = .ok (.aload_n 1, 1) := by decide +kernel
theorem dB_isGood_69 : decode cB_isGood 69 = .ok (.invokevirtual 145, 3) := by decide +kernel
theorem dB_isGood_72 : decode cB_isGood 72 = .ok (.l2i, 1) := by decide +kernel
theorem dB_isGood_73 : decode cB_isGood 73 = .ok (.aaload, 1) := by decide +kernel
theorem dB_isGood_74 : decode cB_isGood 74 = .ok (.aload_n 1, 1) := by decide +kernel
theorem dB_isGood_75 : decode cB_isGood 75 = .ok (.invokevirtual 221, 3) := by decide +kernel
theorem dB_isGood_78 : decode cB_isGood 78 = .ok (.lload_n 2, 1) := by decide +kernel
theorem dB_isGood_79 : decode cB_isGood 79 = .ok (.invokevirtual 224, 3) := by decide +kernel
theorem dB_isGood_82 : decode cB_isGood 82 = .ok (.ireturn, 1) := by decide +kernel
abbrev yB_isDenomination : MethodName := { cls := "BlindMint", name := "isDenomination", desc := "(J)Z" }
abbrev cB_isDenomination : ByteArray := prog_1_method_17_code
theorem dB_isDenomination_0 : decode cB_isDenomination 0 = .ok (.lload_n 0, 1) := by decide +kernel
theorem dB_isDenomination_1 : decode cB_isDenomination 1 = .ok (.lconst 0, 1) := by decide +kernel
theorem dB_isDenomination_2 : decode cB_isDenomination 2 = .ok (.lcmp, 1) := by decide +kernel
theorem dB_isDenomination_3 : decode cB_isDenomination 3 = .ok (.ifCond .lt 17, 3) := by decide +kernel
theorem dB_isDenomination_6 : decode cB_isDenomination 6 = .ok (.lload_n 0, 1) := by decide +kernel
theorem dB_isDenomination_7 : decode cB_isDenomination 7 = .ok (.getstatic 73, 3) := by decide +kernel
theorem dB_isDenomination_10 : decode cB_isDenomination 10 = .ok (.arraylength, 1) := by decide +kernel
theorem dB_isDenomination_11 : decode cB_isDenomination 11 = .ok (.i2l, 1) := by decide +kernel
theorem dB_isDenomination_12 : decode cB_isDenomination 12 = .ok (.lcmp, 1) := by decide +kernel
theorem dB_isDenomination_13 : decode cB_isDenomination 13 = .ok (.ifCond .ge 7, 3) := by decide +kernel
theorem dB_isDenomination_16 : decode cB_isDenomination 16 = .ok (.iconst 1, 1) := by decide +kernel
theorem dB_isDenomination_17 : decode cB_isDenomination 17 = .ok (.goto 4, 3) := by decide +kernel
theorem dB_isDenomination_20 : decode cB_isDenomination 20 = .ok (.iconst 0, 1) := by decide +kernel
theorem dB_isDenomination_21 : decode cB_isDenomination 21 = .ok (.ireturn, 1) := by decide +kernel
abbrev yB_isOne : MethodName := { cls := "BlindMint", name := "isOne", desc := "(JI)Z" }
abbrev cB_isOne : ByteArray := prog_1_method_18_code
theorem dB_isOne_0 : decode cB_isOne 0 = .ok (.lload_n 0, 1) := by decide +kernel
theorem dB_isOne_1 : decode cB_isOne 1 = .ok (.iload_n 2, 1) := by decide +kernel
theorem dB_isOne_2 : decode cB_isOne 2 = .ok (.lshr, 1) := by decide +kernel
theorem dB_isOne_3 : decode cB_isOne 3 = .ok (.lconst 1, 1) := by decide +kernel
theorem dB_isOne_4 : decode cB_isOne 4 = .ok (.land, 1) := by decide +kernel
theorem dB_isOne_5 : decode cB_isOne 5 = .ok (.lconst 1, 1) := by decide +kernel
theorem dB_isOne_6 : decode cB_isOne 6 = .ok (.lcmp, 1) := by decide +kernel
theorem dB_isOne_7 : decode cB_isOne 7 = .ok (.ifCond .ne 7, 3) := by decide +kernel
theorem dB_isOne_10 : decode cB_isOne 10 = .ok (.iconst 1, 1) := by decide +kernel
theorem dB_isOne_11 : decode cB_isOne 11 = .ok (.goto 4, 3) := by decide +kernel
theorem dB_isOne_14 : decode cB_isOne 14 = .ok (.iconst 0, 1) := by decide +kernel
theorem dB_isOne_15 : decode cB_isOne 15 = .ok (.ireturn, 1) := by decide +kernel
abbrev yB_traced : MethodName := { cls := "BlindMint", name := "traced", desc := "()I" }
abbrev cB_traced : ByteArray := prog_1_method_9_code
theorem dB_traced_0 : decode cB_traced 0 = .ok (.aload_n 0, 1) := by decide +kernel
theorem dB_traced_1 : decode cB_traced 1 = .ok (.getfield 40, 3) := by decide +kernel
theorem dB_traced_4 : decode cB_traced 4 = .ok (.ireturn, 1) := by decide +kernel
abbrev yB_coins : MethodName := { cls := "BlindMint", name := "coins", desc := "(I)I" }
abbrev cB_coins : ByteArray := prog_1_method_11_code
theorem dB_coins_0 : decode cB_coins 0 = .ok (.iload_n 1, 1) := by decide +kernel
theorem dB_coins_1 : decode cB_coins 1 = .ok (.invokestatic 62, 3) := by decide +kernel
theorem dB_coins_4 : decode cB_coins 4 = .ok (.ifCond .eq 15, 3) := by decide +kernel
theorem dB_coins_7 : decode cB_coins 7 = .ok (.aload_n 0, 1) := by decide +kernel
theorem dB_coins_8 : decode cB_coins 8 = .ok (.getfield 11, 3) := by decide +kernel
theorem dB_coins_11 : decode cB_coins 11 = .ok (.iload_n 1, 1) := by decide +kernel
theorem dB_coins_12 : decode cB_coins 12 = .ok (.aaload, 1) := by decide +kernel
theorem dB_coins_13 : decode cB_coins 13 = .ok (.getfield 108, 3) := by decide +kernel
theorem dB_coins_16 : decode cB_coins 16 = .ok (.goto 4, 3) := by decide +kernel
theorem dB_coins_19 : decode cB_coins 19 = .ok (.iconst (-1), 1) := by decide +kernel
theorem dB_coins_20 : decode cB_coins 20 = .ok (.ireturn, 1) := by decide +kernel
abbrev yB_isAccount : MethodName := { cls := "BlindMint", name := "isAccount", desc := "(I)Z" }
abbrev cB_isAccount : ByteArray := prog_1_method_16_code
theorem dB_isAccount_0 : decode cB_isAccount 0 = .ok (.iload_n 0, 1) := by decide +kernel
theorem dB_isAccount_1 : decode cB_isAccount 1 = .ok (.ifCond .lt 12, 3) := by decide +kernel
theorem dB_isAccount_4 : decode cB_isAccount 4 = .ok (.iload_n 0, 1) := by decide +kernel
theorem dB_isAccount_5 : decode cB_isAccount 5 = .ok (.iconst 4, 1) := by decide +kernel
theorem dB_isAccount_6 : decode cB_isAccount 6 = .ok (.if_icmp .ge 7, 3) := by decide +kernel
theorem dB_isAccount_9 : decode cB_isAccount 9 = .ok (.iconst 1, 1) := by decide +kernel
theorem dB_isAccount_10 : decode cB_isAccount 10 = .ok (.goto 4, 3) := by decide +kernel
theorem dB_isAccount_13 : decode cB_isAccount 13 = .ok (.iconst 0, 1) := by decide +kernel
theorem dB_isAccount_14 : decode cB_isAccount 14 = .ok (.ireturn, 1) := by decide +kernel
abbrev yB_blinded : MethodName := { cls := "BlindMint", name := "blinded", desc := "()J" }
abbrev cB_blinded : ByteArray := prog_1_method_14_code
theorem dB_blinded_0 : decode cB_blinded 0 = .ok (.aload_n 0, 1) := by decide +kernel
theorem dB_blinded_1 : decode cB_blinded 1 = .ok (.getfield 45, 3) := by decide +kernel
theorem dB_blinded_4 : decode cB_blinded 4 = .ok (.lreturn, 1) := by decide +kernel
abbrev yB_count : MethodName := { cls := "BlindMint", name := "count", desc := "(I)I" }
abbrev cB_count : ByteArray := prog_1_method_15_code
theorem dB_count_0 : decode cB_count 0 = .ok (.iload_n 1, 1) := by decide +kernel
theorem dB_count_1 : decode cB_count 1 = .ok (.tableswitch 51 0 3 #[31, 36, 41, 46], 31) := by decide +kernel
theorem dB_count_32 : decode cB_count 32 = .ok (.aload_n 0, 1) := by decide +kernel
theorem dB_count_33 : decode cB_count 33 = .ok (.getfield 49, 3) := by decide +kernel
theorem dB_count_36 : decode cB_count 36 = .ok (.ireturn, 1) := by decide +kernel
theorem dB_count_37 : decode cB_count 37 = .ok (.aload_n 0, 1) := by decide +kernel
theorem dB_count_38 : decode cB_count 38 = .ok (.getfield 52, 3) := by decide +kernel
theorem dB_count_41 : decode cB_count 41 = .ok (.ireturn, 1) := by decide +kernel
theorem dB_count_42 : decode cB_count 42 = .ok (.aload_n 0, 1) := by decide +kernel
theorem dB_count_43 : decode cB_count 43 = .ok (.getfield 55, 3) := by decide +kernel
theorem dB_count_46 : decode cB_count 46 = .ok (.ireturn, 1) := by decide +kernel
theorem dB_count_47 : decode cB_count 47 = .ok (.aload_n 0, 1) := by decide +kernel
theorem dB_count_48 : decode cB_count 48 = .ok (.getfield 58, 3) := by decide +kernel
theorem dB_count_51 : decode cB_count 51 = .ok (.ireturn, 1) := by decide +kernel
theorem dB_count_52 : decode cB_count 52 = .ok (.iconst (-1), 1) := by decide +kernel
theorem dB_count_53 : decode cB_count 53 = .ok (.ireturn, 1) := by decide +kernel
abbrev yB_withdraw : MethodName := { cls := "BlindMint", name := "withdraw", desc := "(IIJI)I" }
abbrev cB_withdraw : ByteArray := prog_1_method_2_code
theorem dB_withdraw_0 : decode cB_withdraw 0 = .ok (.iload_n 1, 1) := by decide +kernel
theorem dB_withdraw_1 : decode cB_withdraw 1 = .ok (.invokestatic 62, 3) := by decide +kernel
theorem dB_withdraw_4 : decode cB_withdraw 4 = .ok (.ifCond .eq 23, 3) := by decide +kernel
theorem dB_withdraw_7 : decode cB_withdraw 7 = .ok (.iload_n 2, 1) := by decide +kernel
theorem dB_withdraw_8 : decode cB_withdraw 8 = .ok (.i2l, 1) := by decide +kernel
theorem dB_withdraw_9 : decode cB_withdraw 9 = .ok (.invokestatic 66, 3) := by decide +kernel
theorem dB_withdraw_12 : decode cB_withdraw 12 = .ok (.ifCond .eq 15, 3) := by decide +kernel
theorem dB_withdraw_15 : decode cB_withdraw 15 = .ok (.iload 5, 2) := by decide +kernel
theorem dB_withdraw_17 : decode cB_withdraw 17 = .ok (.ifCond .lt 10, 3) := by decide +kernel
theorem dB_withdraw_20 : decode cB_withdraw 20 = .ok (.iload 5, 2) := by decide +kernel
theorem dB_withdraw_22 : decode cB_withdraw 22 = .ok (.bipush 63, 2) := by decide +kernel
theorem dB_withdraw_24 : decode cB_withdraw 24 = .ok (.if_icmp .le 11, 3) := by decide +kernel
theorem dB_withdraw_27 : decode cB_withdraw 27 = .ok (.new 70, 3) := by decide +kernel
theorem dB_withdraw_30 : decode cB_withdraw 30 = .ok (.dup, 1) := by decide +kernel
theorem dB_withdraw_31 : decode cB_withdraw 31 = .ok (.invokespecial 72, 3) := by decide +kernel
theorem dB_withdraw_34 : decode cB_withdraw 34 = .ok (.athrow, 1) := by decide +kernel
theorem dB_withdraw_35 : decode cB_withdraw 35 = .ok (.aload_n 0, 1) := by decide +kernel
theorem dB_withdraw_36 : decode cB_withdraw 36 = .ok (.getfield 11, 3) := by decide +kernel
theorem dB_withdraw_39 : decode cB_withdraw 39 = .ok (.iload_n 1, 1) := by decide +kernel
theorem dB_withdraw_40 : decode cB_withdraw 40 = .ok (.aaload, 1) := by decide +kernel
theorem dB_withdraw_41 : decode cB_withdraw 41 = .ok (.astore 6, 2) := by decide +kernel
theorem dB_withdraw_43 : decode cB_withdraw 43 = .ok (.getstatic 73, 3) := by decide +kernel
theorem dB_withdraw_46 : decode cB_withdraw 46 = .ok (.iload_n 2, 1) := by decide +kernel
theorem dB_withdraw_47 : decode cB_withdraw 47 = .ok (.aaload, 1) := by decide +kernel
theorem dB_withdraw_48 : decode cB_withdraw 48 = .ok (.getfield 77, 3) := by decide +kernel
theorem dB_withdraw_51 : decode cB_withdraw 51 = .ok (.istore 7, 2) := by decide +kernel
theorem dB_withdraw_53 : decode cB_withdraw 53 = .ok (.aload 6, 2) := by decide +kernel
theorem dB_withdraw_55 : decode cB_withdraw 55 = .ok (.getfield 82, 3) := by decide +kernel
theorem dB_withdraw_58 : decode cB_withdraw 58 = .ok (.iload 7, 2) := by decide +kernel
theorem dB_withdraw_60 : decode cB_withdraw 60 = .ok (.if_icmp .lt 11, 3) := by decide +kernel
theorem dB_withdraw_63 : decode cB_withdraw 63 = .ok (.aload 6, 2) := by decide +kernel
theorem dB_withdraw_65 : decode cB_withdraw 65 = .ok (.invokevirtual 85, 3) := by decide +kernel
theorem dB_withdraw_68 : decode cB_withdraw 68 = .ok (.ifCond .eq 11, 3) := by decide +kernel
theorem dB_withdraw_71 : decode cB_withdraw 71 = .ok (.new 89, 3) := by decide +kernel
theorem dB_withdraw_74 : decode cB_withdraw 74 = .ok (.dup, 1) := by decide +kernel
theorem dB_withdraw_75 : decode cB_withdraw 75 = .ok (.invokespecial 91, 3) := by decide +kernel
theorem dB_withdraw_78 : decode cB_withdraw 78 = .ok (.athrow, 1) := by decide +kernel
theorem dB_withdraw_79 : decode cB_withdraw 79 = .ok (.sipush 1000, 3) := by decide +kernel
theorem dB_withdraw_82 : decode cB_withdraw 82 = .ok (.iload_n 1, 1) := by decide +kernel
theorem dB_withdraw_83 : decode cB_withdraw 83 = .ok (.iadd, 1) := by decide +kernel
theorem dB_withdraw_84 : decode cB_withdraw 84 = .ok (.i2l, 1) := by decide +kernel
theorem dB_withdraw_85 : decode cB_withdraw 85 = .ok (.lstore 8, 2) := by decide +kernel
theorem dB_withdraw_87 : decode cB_withdraw 87 = .ok (.aload_n 0, 1) := by decide +kernel
theorem dB_withdraw_88 : decode cB_withdraw 88 = .ok (.getfield 18, 3) := by decide +kernel
theorem dB_withdraw_91 : decode cB_withdraw 91 = .ok (.lload_n 3, 1) := by decide +kernel
theorem dB_withdraw_92 : decode cB_withdraw 92 = .ok (.lload 8, 2) := by decide +kernel
theorem dB_withdraw_94 : decode cB_withdraw 94 = .ok (.iload 5, 2) := by decide +kernel
theorem dB_withdraw_96 : decode cB_withdraw 96 = .ok (.invokevirtual 92, 3) := by decide +kernel
theorem dB_withdraw_99 : decode cB_withdraw 99 = .ok (.aload_n 0, 1) := by decide +kernel
theorem dB_withdraw_100 : decode cB_withdraw 100 = .ok (.getfield 18, 3) := by decide +kernel
theorem dB_withdraw_103 : decode cB_withdraw 103 = .ok (.lload 8, 2) := by decide +kernel
theorem dB_withdraw_105 : decode cB_withdraw 105 = .ok (.invokevirtual 96, 3) := by decide +kernel
theorem dB_withdraw_108 : decode cB_withdraw 108 = .ok (.istore 10, 2) := by decide +kernel
theorem dB_withdraw_110 : decode cB_withdraw 110 = .ok (.iload 10, 2) := by decide +kernel
theorem dB_withdraw_112 : decode cB_withdraw 112 = .ok (.ifCond .le 33, 3) := by decide +kernel
theorem dB_withdraw_115 : decode cB_withdraw 115 = .ok (.aload 6, 2) := by decide +kernel
theorem dB_withdraw_117 : decode cB_withdraw 117 = .ok (.dup, 1) := by decide +kernel
theorem dB_withdraw_118 : decode cB_withdraw 118 = .ok (.getfield 82, 3) := by decide +kernel
theorem dB_withdraw_121 : decode cB_withdraw 121 = .ok (.iconst 1, 1) := by decide +kernel
theorem dB_withdraw_122 : decode cB_withdraw 122 = .ok (.isub, 1) := by decide +kernel
theorem dB_withdraw_123 : decode cB_withdraw 123 = .ok (.putfield 82, 3) := by decide +kernel
theorem dB_withdraw_126 : decode cB_withdraw 126 = .ok (.aload_n 0, 1) := by decide +kernel
theorem dB_withdraw_127 : decode cB_withdraw 127 = .ok (.dup, 1) := by decide +kernel
theorem dB_withdraw_128 : decode cB_withdraw 128 = .ok (.getfield 55, 3) := by decide +kernel
theorem dB_withdraw_131 : decode cB_withdraw 131 = .ok (.iload 10, 2) := by decide +kernel
theorem dB_withdraw_133 : decode cB_withdraw 133 = .ok (.iadd, 1) := by decide +kernel
theorem dB_withdraw_134 : decode cB_withdraw 134 = .ok (.putfield 55, 3) := by decide +kernel
theorem dB_withdraw_137 : decode cB_withdraw 137 = .ok (.new 89, 3) := by decide +kernel
theorem dB_withdraw_140 : decode cB_withdraw 140 = .ok (.dup, 1) := by decide +kernel
theorem dB_withdraw_141 : decode cB_withdraw 141 = .ok (.invokespecial 91, 3) := by decide +kernel
theorem dB_withdraw_144 : decode cB_withdraw 144 = .ok (.athrow, 1) := by decide +kernel
theorem dB_withdraw_145 : decode cB_withdraw 145 = .ok (.aload 6, 2) := by decide +kernel
theorem dB_withdraw_147 : decode cB_withdraw 147 = .ok (.dup, 1) := by decide +kernel
theorem dB_withdraw_148 : decode cB_withdraw 148 = .ok (.getfield 82, 3) := by decide +kernel
theorem dB_withdraw_151 : decode cB_withdraw 151 = .ok (.iload 7, 2) := by decide +kernel
theorem dB_withdraw_153 : decode cB_withdraw 153 = .ok (.isub, 1) := by decide +kernel
theorem dB_withdraw_154 : decode cB_withdraw 154 = .ok (.putfield 82, 3) := by decide +kernel
theorem dB_withdraw_157 : decode cB_withdraw 157 = .ok (.aload_n 0, 1) := by decide +kernel
theorem dB_withdraw_158 : decode cB_withdraw 158 = .ok (.dup, 1) := by decide +kernel
theorem dB_withdraw_159 : decode cB_withdraw 159 = .ok (.getfield 49, 3) := by decide +kernel
theorem dB_withdraw_162 : decode cB_withdraw 162 = .ok (.iconst 1, 1) := by decide +kernel
theorem dB_withdraw_163 : decode cB_withdraw 163 = .ok (.iadd, 1) := by decide +kernel
theorem dB_withdraw_164 : decode cB_withdraw 164 = .ok (.putfield 49, 3) := by decide +kernel
theorem dB_withdraw_167 : decode cB_withdraw 167 = .ok (.aload 6, 2) := by decide +kernel
theorem dB_withdraw_169 : decode cB_withdraw 169 = .ok (.aload_n 0, 1) := by decide +kernel
theorem dB_withdraw_170 : decode cB_withdraw 170 = .ok (.iload_n 2, 1) := by decide +kernel
theorem dB_withdraw_171 : decode cB_withdraw 171 = .ok (.lload_n 3, 1) := by decide +kernel
theorem dB_withdraw_172 : decode cB_withdraw 172 = .ok (.invokevirtual 100, 3) := by decide +kernel
theorem dB_withdraw_175 : decode cB_withdraw 175 = .ok (.invokevirtual 104, 3) := by decide +kernel
theorem dB_withdraw_178 : decode cB_withdraw 178 = .ok (.ireturn, 1) := by decide +kernel
abbrev yB_makeCoin : MethodName := { cls := "BlindMint", name := "makeCoin", desc := "(IJ)LBlindMint$Coin;" }
abbrev cB_makeCoin : ByteArray := prog_1_method_22_code
theorem dB_makeCoin_0 : decode cB_makeCoin 0 = .ok (.getstatic 73, 3) := by decide +kernel
theorem dB_makeCoin_3 : decode cB_makeCoin 3 = .ok (.iload_n 1, 1) := by decide +kernel
theorem dB_makeCoin_4 : decode cB_makeCoin 4 = .ok (.aaload, 1) := by decide +kernel
theorem dB_makeCoin_5 : decode cB_makeCoin 5 = .ok (.astore 4, 2) := by decide +kernel
theorem dB_makeCoin_7 : decode cB_makeCoin 7 = .ok (.aload_n 0, 1) := by decide +kernel
theorem dB_makeCoin_8 : decode cB_makeCoin 8 = .ok (.getfield 18, 3) := by decide +kernel
theorem dB_makeCoin_11 : decode cB_makeCoin 11 = .ok (.aload_n 0, 1) := by decide +kernel
theorem dB_makeCoin_12 : decode cB_makeCoin 12 = .ok (.getfield 32, 3) := by decide +kernel
theorem dB_makeCoin_15 : decode cB_makeCoin 15 = .ok (.invokevirtual 184, 3) := by decide +kernel
theorem dB_makeCoin_18 : decode cB_makeCoin 18 = .ok (.iload_n 1, 1) := by decide +kernel
theorem dB_makeCoin_19 : decode cB_makeCoin 19 = .ok (.i2l, 1) := by decide +kernel
theorem dB_makeCoin_20 : decode cB_makeCoin 20 = .ok (.aload_n 0, 1) := by decide +kernel
theorem dB_makeCoin_21 : decode cB_makeCoin 21 = .ok (.getfield 32, 3) := by decide +kernel
theorem dB_makeCoin_24 : decode cB_makeCoin 24 = .ok (.invokestatic 188, 3) := by decide +kernel
theorem dB_makeCoin_27 : decode cB_makeCoin 27 = .ok (.lstore 5, 2) := by decide +kernel
theorem dB_makeCoin_29 : decode cB_makeCoin 29 = .ok (.aload 4, 2) := by decide +kernel
theorem dB_makeCoin_31 : decode cB_makeCoin 31 = .ok (.lload_n 2, 1) := by decide +kernel
theorem dB_makeCoin_32 : decode cB_makeCoin 32 = .ok (.ldc2_w 194, 3) := by decide +kernel
theorem dB_makeCoin_35 : decode cB_makeCoin 35 = .ok (.invokestatic 196, 3) := by decide +kernel
theorem dB_makeCoin_38 : decode cB_makeCoin 38 = .ok (.invokevirtual 200, 3) := by decide +kernel
theorem dB_makeCoin_41 : decode cB_makeCoin 41 = .ok (.lstore 7, 2) := by decide +kernel
theorem dB_makeCoin_43 : decode cB_makeCoin 43 = .ok (.aload_n 0, 1) := by decide +kernel
theorem dB_makeCoin_44 : decode cB_makeCoin 44 = .ok (.aload 4, 2) := by decide +kernel
theorem dB_makeCoin_46 : decode cB_makeCoin 46 = .ok (.lload 5, 2) := by decide +kernel
theorem dB_makeCoin_48 : decode cB_makeCoin 48 = .ok (.lload 7, 2) := by decide +kernel
theorem dB_makeCoin_50 : decode cB_makeCoin 50 = .ok (.invokevirtual 204, 3) := by decide +kernel
theorem dB_makeCoin_53 : decode cB_makeCoin 53 = .ok (.putfield 45, 3) := by decide +kernel
theorem dB_makeCoin_56 : decode cB_makeCoin 56 = .ok (.aload 4, 2) := by decide +kernel
theorem dB_makeCoin_58 : decode cB_makeCoin 58 = .ok (.aload_n 0, 1) := by decide +kernel
theorem dB_makeCoin_59 : decode cB_makeCoin 59 = .ok (.getfield 45, 3) := by decide +kernel
theorem dB_makeCoin_62 : decode cB_makeCoin 62 = .ok (.invokevirtual 207, 3) := by decide +kernel
theorem dB_makeCoin_65 : decode cB_makeCoin 65 = .ok (.lstore 9, 2) := by decide +kernel
theorem dB_makeCoin_67 : decode cB_makeCoin 67 = .ok (.new 123, 3) := by decide +kernel
theorem dB_makeCoin_70 : decode cB_makeCoin 70 = .ok (.dup, 1) := by decide +kernel
theorem dB_makeCoin_71 : decode cB_makeCoin 71 = .ok (.iload_n 1, 1) := by decide +kernel
theorem dB_makeCoin_72 : decode cB_makeCoin 72 = .ok (.lload 5, 2) := by decide +kernel
theorem dB_makeCoin_74 : decode cB_makeCoin 74 = .ok (.aload 4, 2) := by decide +kernel
theorem dB_makeCoin_76 : decode cB_makeCoin 76 = .ok (.lload 9, 2) := by decide +kernel
theorem dB_makeCoin_78 : decode cB_makeCoin 78 = .ok (.lload 7, 2) := by decide +kernel
theorem dB_makeCoin_80 : decode cB_makeCoin 80 = .ok (.invokevirtual 210, 3) := by decide +kernel
theorem dB_makeCoin_83 : decode cB_makeCoin 83 = .ok (.aload_n 0, 1) := by decide +kernel
theorem dB_makeCoin_84 : decode cB_makeCoin 84 = .ok (.getfield 18, 3) := by decide +kernel
theorem dB_makeCoin_87 : decode cB_makeCoin 87 = .ok (.getfield 213, 3) := by decide +kernel
theorem dB_makeCoin_90 : decode cB_makeCoin 90 = .ok (.invokespecial 217, 3) := by decide +kernel
theorem dB_makeCoin_93 : decode cB_makeCoin 93 = .ok (.areturn, 1) := by decide +kernel
abbrev yB_choose : MethodName := { cls := "BlindMint", name := "choose", desc := "(II)I" }
abbrev cB_choose : ByteArray := prog_1_method_3_code
theorem dB_choose_0 : decode cB_choose 0 = .ok (.iload_n 1, 1) := by decide +kernel
theorem dB_choose_1 : decode cB_choose 1 = .ok (.invokestatic 62, 3) := by decide +kernel
theorem dB_choose_4 : decode cB_choose 4 = .ok (.ifCond .eq 8, 3) := by decide +kernel
theorem dB_choose_7 : decode cB_choose 7 = .ok (.iload_n 2, 1) := by decide +kernel
theorem dB_choose_8 : decode cB_choose 8 = .ok (.iconst 1, 1) := by decide +kernel
theorem dB_choose_9 : decode cB_choose 9 = .ok (.if_icmp .ge 11, 3) := by decide +kernel
theorem dB_choose_12 : decode cB_choose 12 = .ok (.new 70, 3) := by decide +kernel
theorem dB_choose_15 : decode cB_choose 15 = .ok (.dup, 1) := by decide +kernel
theorem dB_choose_16 : decode cB_choose 16 = .ok (.invokespecial 72, 3) := by decide +kernel
theorem dB_choose_19 : decode cB_choose 19 = .ok (.athrow, 1) := by decide +kernel
theorem dB_choose_20 : decode cB_choose 20 = .ok (.aload_n 0, 1) := by decide +kernel
theorem dB_choose_21 : decode cB_choose 21 = .ok (.getfield 11, 3) := by decide +kernel
theorem dB_choose_24 : decode cB_choose 24 = .ok (.iload_n 1, 1) := by decide +kernel
theorem dB_choose_25 : decode cB_choose 25 = .ok (.aaload, 1) := by decide +kernel
theorem dB_choose_26 : decode cB_choose 26 = .ok (.astore_n 3, 1) := by decide +kernel
theorem dB_choose_27 : decode cB_choose 27 = .ok (.iconst 0, 1) := by decide +kernel
theorem dB_choose_28 : decode cB_choose 28 = .ok (.istore 4, 2) := by decide +kernel
theorem dB_choose_30 : decode cB_choose 30 = .ok (.iload_n 2, 1) := by decide +kernel
theorem dB_choose_31 : decode cB_choose 31 = .ok (.istore 5, 2) := by decide +kernel
theorem dB_choose_33 : decode cB_choose 33 = .ok (.getstatic 73, 3) := by decide +kernel
theorem dB_choose_36 : decode cB_choose 36 = .ok (.arraylength, 1) := by decide +kernel
theorem dB_choose_37 : decode cB_choose 37 = .ok (.iconst 1, 1) := by decide +kernel
theorem dB_choose_38 : decode cB_choose 38 = .ok (.isub, 1) := by decide +kernel
theorem dB_choose_39 : decode cB_choose 39 = .ok (.istore 6, 2) := by decide +kernel
theorem dB_choose_41 : decode cB_choose 41 = .ok (.iload 6, 2) := by decide +kernel
theorem dB_choose_43 : decode cB_choose 43 = .ok (.ifCond .lt 72, 3) := by decide +kernel
theorem dB_choose_46 : decode cB_choose 46 = .ok (.getstatic 73, 3) := by decide +kernel
theorem dB_choose_49 : decode cB_choose 49 = .ok (.iload 6, 2) := by decide +kernel
theorem dB_choose_51 : decode cB_choose 51 = .ok (.aaload, 1) := by decide +kernel
theorem dB_choose_52 : decode cB_choose 52 = .ok (.getfield 77, 3) := by decide +kernel
theorem dB_choose_55 : decode cB_choose 55 = .ok (.istore 7, 2) := by decide +kernel
theorem dB_choose_57 : decode cB_choose 57 = .ok (.iconst 0, 1) := by decide +kernel
theorem dB_choose_58 : decode cB_choose 58 = .ok (.istore 8, 2) := by decide +kernel
theorem dB_choose_60 : decode cB_choose 60 = .ok (.iload 8, 2) := by decide +kernel
theorem dB_choose_62 : decode cB_choose 62 = .ok (.aload_n 3, 1) := by decide +kernel
theorem dB_choose_63 : decode cB_choose 63 = .ok (.getfield 108, 3) := by decide +kernel
theorem dB_choose_66 : decode cB_choose 66 = .ok (.if_icmp .ge 43, 3) := by decide +kernel
theorem dB_choose_69 : decode cB_choose 69 = .ok (.aload_n 3, 1) := by decide +kernel
theorem dB_choose_70 : decode cB_choose 70 = .ok (.iload 8, 2) := by decide +kernel
theorem dB_choose_72 : decode cB_choose 72 = .ok (.iload 6, 2) := by decide +kernel
theorem dB_choose_74 : decode cB_choose 74 = .ok (.invokevirtual 111, 3) := by decide +kernel
theorem dB_choose_77 : decode cB_choose 77 = .ok (.ifCond .eq 26, 3) := by decide +kernel
theorem dB_choose_80 : decode cB_choose 80 = .ok (.iload 7, 2) := by decide +kernel
theorem dB_choose_82 : decode cB_choose 82 = .ok (.iload 5, 2) := by decide +kernel
theorem dB_choose_84 : decode cB_choose 84 = .ok (.if_icmp .gt 19, 3) := by decide +kernel
theorem dB_choose_87 : decode cB_choose 87 = .ok (.iload 4, 2) := by decide +kernel
theorem dB_choose_89 : decode cB_choose 89 = .ok (.iconst 1, 1) := by decide +kernel
theorem dB_choose_90 : decode cB_choose 90 = .ok (.iload 8, 2) := by decide +kernel
theorem dB_choose_92 : decode cB_choose 92 = .ok (.ishl, 1) := by decide +kernel
theorem dB_choose_93 : decode cB_choose 93 = .ok (.ior, 1) := by decide +kernel
theorem dB_choose_94 : decode cB_choose 94 = .ok (.istore 4, 2) := by decide +kernel
theorem dB_choose_96 : decode cB_choose 96 = .ok (.iload 5, 2) := by decide +kernel
theorem dB_choose_98 : decode cB_choose 98 = .ok (.iload 7, 2) := by decide +kernel
theorem dB_choose_100 : decode cB_choose 100 = .ok (.isub, 1) := by decide +kernel
theorem dB_choose_101 : decode cB_choose 101 = .ok (.istore 5, 2) := by decide +kernel
theorem dB_choose_103 : decode cB_choose 103 = .ok (.iinc 8 1, 3) := by decide +kernel
theorem dB_choose_106 : decode cB_choose 106 = .ok (.goto (-46), 3) := by decide +kernel
theorem dB_choose_109 : decode cB_choose 109 = .ok (.iinc 6 (-1), 3) := by decide +kernel
theorem dB_choose_112 : decode cB_choose 112 = .ok (.goto (-71), 3) := by decide +kernel
theorem dB_choose_115 : decode cB_choose 115 = .ok (.iload 5, 2) := by decide +kernel
theorem dB_choose_117 : decode cB_choose 117 = .ok (.ifCond .eq 11, 3) := by decide +kernel
theorem dB_choose_120 : decode cB_choose 120 = .ok (.new 115, 3) := by decide +kernel
theorem dB_choose_123 : decode cB_choose 123 = .ok (.dup, 1) := by decide +kernel
theorem dB_choose_124 : decode cB_choose 124 = .ok (.invokespecial 117, 3) := by decide +kernel
theorem dB_choose_127 : decode cB_choose 127 = .ok (.athrow, 1) := by decide +kernel
theorem dB_choose_128 : decode cB_choose 128 = .ok (.iload 4, 2) := by decide +kernel
theorem dB_choose_130 : decode cB_choose 130 = .ok (.ireturn, 1) := by decide +kernel
abbrev yB_spend : MethodName := { cls := "BlindMint", name := "spend", desc := "(IIII)I" }
abbrev cB_spend : ByteArray := prog_1_method_4_code
theorem dB_spend_0 : decode cB_spend 0 = .ok (.aload_n 0, 1) := by decide +kernel
theorem dB_spend_1 : decode cB_spend 1 = .ok (.iload_n 1, 1) := by decide +kernel
theorem dB_spend_2 : decode cB_spend 2 = .ok (.iload_n 2, 1) := by decide +kernel
theorem dB_spend_3 : decode cB_spend 3 = .ok (.invokevirtual 118, 3) := by decide +kernel
theorem dB_spend_6 : decode cB_spend 6 = .ok (.astore 5, 2) := by decide +kernel
theorem dB_spend_8 : decode cB_spend 8 = .ok (.aload 5, 2) := by decide +kernel
theorem dB_spend_10 : decode cB_spend 10 = .ok (.ifnonnull 11, 3) := by decide +kernel
theorem dB_spend_13 : decode cB_spend 13 = .ok (.new 70, 3) := by decide +kernel
theorem dB_spend_16 : decode cB_spend 16 = .ok (.dup, 1) := by decide +kernel
theorem dB_spend_17 : decode cB_spend 17 = .ok (.invokespecial 72, 3) := by decide +kernel
theorem dB_spend_20 : decode cB_spend 20 = .ok (.athrow, 1) := by decide +kernel
theorem dB_spend_21 : decode cB_spend 21 = .ok (.aload_n 0, 1) := by decide +kernel
theorem dB_spend_22 : decode cB_spend 22 = .ok (.getfield 28, 3) := by decide +kernel
theorem dB_spend_25 : decode cB_spend 25 = .ok (.bipush 20, 2) := by decide +kernel
theorem dB_spend_27 : decode cB_spend 27 = .ok (.if_icmp .lt 11, 3) := by decide +kernel
theorem dB_spend_30 : decode cB_spend 30 = .ok (.new 89, 3) := by decide +kernel
theorem dB_spend_33 : decode cB_spend 33 = .ok (.dup, 1) := by decide +kernel
theorem dB_spend_34 : decode cB_spend 34 = .ok (.invokespecial 91, 3) := by decide +kernel
theorem dB_spend_37 : decode cB_spend 37 = .ok (.athrow, 1) := by decide +kernel
theorem dB_spend_38 : decode cB_spend 38 = .ok (.aload 5, 2) := by decide +kernel
theorem dB_spend_40 : decode cB_spend 40 = .ok (.iconst 1, 1) := by decide +kernel
theorem dB_spend_41 : decode cB_spend 41 = .ok (.putfield 122, 3) := by decide +kernel
theorem dB_spend_44 : decode cB_spend 44 = .ok (.aload_n 0, 1) := by decide +kernel
theorem dB_spend_45 : decode cB_spend 45 = .ok (.getfield 24, 3) := by decide +kernel
theorem dB_spend_48 : decode cB_spend 48 = .ok (.aload_n 0, 1) := by decide +kernel
theorem dB_spend_49 : decode cB_spend 49 = .ok (.getfield 28, 3) := by decide +kernel
theorem dB_spend_52 : decode cB_spend 52 = .ok (.new 22, 3) := by decide +kernel
theorem dB_spend_55 : decode cB_spend 55 = .ok (.dup, 1) := by decide +kernel
theorem dB_spend_56 : decode cB_spend 56 = .ok (.aload 5, 2) := by decide +kernel
theorem dB_spend_58 : decode cB_spend 58 = .ok (.iload_n 3, 1) := by decide +kernel
theorem dB_spend_59 : decode cB_spend 59 = .ok (.iload 4, 2) := by decide +kernel
theorem dB_spend_61 : decode cB_spend 61 = .ok (.invokespecial 128, 3) := by decide +kernel
theorem dB_spend_64 : decode cB_spend 64 = .ok (.aastore, 1) := by decide +kernel
theorem dB_spend_65 : decode cB_spend 65 = .ok (.aload_n 0, 1) := by decide +kernel
theorem dB_spend_66 : decode cB_spend 66 = .ok (.dup, 1) := by decide +kernel
theorem dB_spend_67 : decode cB_spend 67 = .ok (.getfield 28, 3) := by decide +kernel
theorem dB_spend_70 : decode cB_spend 70 = .ok (.iconst 1, 1) := by decide +kernel
theorem dB_spend_71 : decode cB_spend 71 = .ok (.iadd, 1) := by decide +kernel
theorem dB_spend_72 : decode cB_spend 72 = .ok (.putfield 28, 3) := by decide +kernel
theorem dB_spend_75 : decode cB_spend 75 = .ok (.aload_n 0, 1) := by decide +kernel
theorem dB_spend_76 : decode cB_spend 76 = .ok (.getfield 28, 3) := by decide +kernel
theorem dB_spend_79 : decode cB_spend 79 = .ok (.iconst 1, 1) := by decide +kernel
theorem dB_spend_80 : decode cB_spend 80 = .ok (.isub, 1) := by decide +kernel
theorem dB_spend_81 : decode cB_spend 81 = .ok (.ireturn, 1) := by decide +kernel
abbrev yB_findCoin : MethodName := { cls := "BlindMint", name := "findCoin", desc := "(II)LBlindMint$Coin;" }
abbrev cB_findCoin : ByteArray := prog_1_method_20_code
theorem dB_findCoin_0 : decode cB_findCoin 0 = .ok (.iload_n 1, 1) := by decide +kernel
theorem dB_findCoin_1 : decode cB_findCoin 1 = .ok (.invokestatic 62, 3) := by decide +kernel
theorem dB_findCoin_4 : decode cB_findCoin 4 = .ok (.ifCond .eq 20, 3) := by decide +kernel
theorem dB_findCoin_7 : decode cB_findCoin 7 = .ok (.iload_n 2, 1) := by decide +kernel
theorem dB_findCoin_8 : decode cB_findCoin 8 = .ok (.ifCond .lt 16, 3) := by decide +kernel
theorem dB_findCoin_11 : decode cB_findCoin 11 = .ok (.iload_n 2, 1) := by decide +kernel
theorem dB_findCoin_12 : decode cB_findCoin 12 = .ok (.aload_n 0, 1) := by decide +kernel
theorem dB_findCoin_13 : decode cB_findCoin 13 = .ok (.getfield 11, 3) := by decide +kernel
theorem dB_findCoin_16 : decode cB_findCoin 16 = .ok (.iload_n 1, 1) := by decide +kernel
theorem dB_findCoin_17 : decode cB_findCoin 17 = .ok (.aaload, 1) := by decide +kernel
theorem dB_findCoin_18 : decode cB_findCoin 18 = .ok (.getfield 108, 3) := by decide +kernel
theorem dB_findCoin_21 : decode cB_findCoin 21 = .ok (.if_icmp .lt 5, 3) := by decide +kernel
theorem dB_findCoin_24 : decode cB_findCoin 24 = .ok (.aconst_null, 1) := by decide +kernel
theorem dB_findCoin_25 : decode cB_findCoin 25 = .ok (.areturn, 1) := by decide +kernel
theorem dB_findCoin_26 : decode cB_findCoin 26 = .ok (.aload_n 0, 1) := by decide +kernel
theorem dB_findCoin_27 : decode cB_findCoin 27 = .ok (.getfield 11, 3) := by decide +kernel
theorem dB_findCoin_30 : decode cB_findCoin 30 = .ok (.iload_n 1, 1) := by decide +kernel
theorem dB_findCoin_31 : decode cB_findCoin 31 = .ok (.aaload, 1) := by decide +kernel
theorem dB_findCoin_32 : decode cB_findCoin 32 = .ok (.getfield 180, 3) := by decide +kernel
theorem dB_findCoin_35 : decode cB_findCoin 35 = .ok (.iload_n 2, 1) := by decide +kernel
theorem dB_findCoin_36 : decode cB_findCoin 36 = .ok (.aaload, 1) := by decide +kernel
theorem dB_findCoin_37 : decode cB_findCoin 37 = .ok (.areturn, 1) := by decide +kernel
abbrev yB_tamper : MethodName := { cls := "BlindMint", name := "tamper", desc := "(IIJ)J" }
abbrev cB_tamper : ByteArray := prog_1_method_5_code
theorem dB_tamper_0 : decode cB_tamper 0 = .ok (.aload_n 0, 1) := by decide +kernel
theorem dB_tamper_1 : decode cB_tamper 1 = .ok (.iload_n 1, 1) := by decide +kernel
theorem dB_tamper_2 : decode cB_tamper 2 = .ok (.invokevirtual 131, 3) := by decide +kernel
theorem dB_tamper_5 : decode cB_tamper 5 = .ok (.astore 5, 2) := by decide +kernel
theorem dB_tamper_7 : decode cB_tamper 7 = .ok (.aload 5, 2) := by decide +kernel
theorem dB_tamper_9 : decode cB_tamper 9 = .ok (.ifnull 10, 3) := by decide +kernel
theorem dB_tamper_12 : decode cB_tamper 12 = .ok (.iload_n 2, 1) := by decide +kernel
theorem dB_tamper_13 : decode cB_tamper 13 = .ok (.invokestatic 135, 3) := by decide +kernel
theorem dB_tamper_16 : decode cB_tamper 16 = .ok (.ifCond .ne 11, 3) := by decide +kernel
theorem dB_tamper_19 : decode cB_tamper 19 = .ok (.new 70, 3) := by decide +kernel
theorem dB_tamper_22 : decode cB_tamper 22 = .ok (.dup, 1) := by decide +kernel
theorem dB_tamper_23 : decode cB_tamper 23 = .ok (.invokespecial 72, 3) := by decide +kernel
theorem dB_tamper_26 : decode cB_tamper 26 = .ok (.athrow, 1) := by decide +kernel
theorem dB_tamper_27 : decode cB_tamper 27 = .ok (.aload 5, 2) := by decide +kernel
theorem dB_tamper_29 : decode cB_tamper 29 = .ok (.getfield 138, 3) := by decide +kernel
theorem dB_tamper_32 : decode cB_tamper 32 = .ok (.iload_n 2, 1) := by decide +kernel
theorem dB_tamper_33 : decode cB_tamper 33 = .ok (.dup2, 1) := by decide +kernel
theorem dB_tamper_34 : decode cB_tamper 34 = .ok (.laload, 1) := by decide +kernel
theorem dB_tamper_35 : decode cB_tamper 35 = .ok (.lload_n 3, 1) := by decide +kernel
theorem dB_tamper_36 : decode cB_tamper 36 = .ok (.lxor, 1) := by decide +kernel
theorem dB_tamper_37 : decode cB_tamper 37 = .ok (.lastore, 1) := by decide +kernel
theorem dB_tamper_38 : decode cB_tamper 38 = .ok (.aload 5, 2) := by decide +kernel
theorem dB_tamper_40 : decode cB_tamper 40 = .ok (.getfield 138, 3) := by decide +kernel
theorem dB_tamper_43 : decode cB_tamper 43 = .ok (.iload_n 2, 1) := by decide +kernel
theorem dB_tamper_44 : decode cB_tamper 44 = .ok (.laload, 1) := by decide +kernel
theorem dB_tamper_45 : decode cB_tamper 45 = .ok (.lreturn, 1) := by decide +kernel
abbrev yB_number : MethodName := { cls := "BlindMint", name := "number", desc := "(II)J" }
abbrev cB_number : ByteArray := prog_1_method_6_code
theorem dB_number_0 : decode cB_number 0 = .ok (.aload_n 0, 1) := by decide +kernel
theorem dB_number_1 : decode cB_number 1 = .ok (.iload_n 1, 1) := by decide +kernel
theorem dB_number_2 : decode cB_number 2 = .ok (.invokevirtual 131, 3) := by decide +kernel
theorem dB_number_5 : decode cB_number 5 = .ok (.astore_n 3, 1) := by decide +kernel
theorem dB_number_6 : decode cB_number 6 = .ok (.aload_n 3, 1) := by decide +kernel
theorem dB_number_7 : decode cB_number 7 = .ok (.ifnull 10, 3) := by decide +kernel
theorem dB_number_10 : decode cB_number 10 = .ok (.iload_n 2, 1) := by decide +kernel
theorem dB_number_11 : decode cB_number 11 = .ok (.invokestatic 135, 3) := by decide +kernel
theorem dB_number_14 : decode cB_number 14 = .ok (.ifCond .ne 11, 3) := by decide +kernel
theorem dB_number_17 : decode cB_number 17 = .ok (.new 115, 3) := by decide +kernel
theorem dB_number_20 : decode cB_number 20 = .ok (.dup, 1) := by decide +kernel
theorem dB_number_21 : decode cB_number 21 = .ok (.invokespecial 117, 3) := by decide +kernel
theorem dB_number_24 : decode cB_number 24 = .ok (.athrow, 1) := by decide +kernel
theorem dB_number_25 : decode cB_number 25 = .ok (.aload_n 3, 1) := by decide +kernel
theorem dB_number_26 : decode cB_number 26 = .ok (.getfield 138, 3) := by decide +kernel
theorem dB_number_29 : decode cB_number 29 = .ok (.iload_n 2, 1) := by decide +kernel
theorem dB_number_30 : decode cB_number 30 = .ok (.laload, 1) := by decide +kernel
theorem dB_number_31 : decode cB_number 31 = .ok (.lreturn, 1) := by decide +kernel
abbrev yB_deposit : MethodName := { cls := "BlindMint", name := "deposit", desc := "(II)I" }
abbrev cB_deposit : ByteArray := prog_1_method_8_code
theorem dB_deposit_0 : decode cB_deposit 0 = .ok (.aload_n 0, 1) := by decide +kernel
theorem dB_deposit_1 : decode cB_deposit 1 = .ok (.iload_n 1, 1) := by decide +kernel
theorem dB_deposit_2 : decode cB_deposit 2 = .ok (.invokevirtual 131, 3) := by decide +kernel
theorem dB_deposit_5 : decode cB_deposit 5 = .ok (.astore_n 3, 1) := by decide +kernel
theorem dB_deposit_6 : decode cB_deposit 6 = .ok (.iload_n 2, 1) := by decide +kernel
theorem dB_deposit_7 : decode cB_deposit 7 = .ok (.invokestatic 62, 3) := by decide +kernel
theorem dB_deposit_10 : decode cB_deposit 10 = .ok (.ifCond .eq 15, 3) := by decide +kernel
theorem dB_deposit_13 : decode cB_deposit 13 = .ok (.aload_n 3, 1) := by decide +kernel
theorem dB_deposit_14 : decode cB_deposit 14 = .ok (.ifnull 11, 3) := by decide +kernel
theorem dB_deposit_17 : decode cB_deposit 17 = .ok (.aload_n 0, 1) := by decide +kernel
theorem dB_deposit_18 : decode cB_deposit 18 = .ok (.aload_n 3, 1) := by decide +kernel
theorem dB_deposit_19 : decode cB_deposit 19 = .ok (.invokevirtual 141, 3) := by decide +kernel
theorem dB_deposit_22 : decode cB_deposit 22 = .ok (.ifCond .ne 11, 3) := by decide +kernel
theorem dB_deposit_25 : decode cB_deposit 25 = .ok (.new 70, 3) := by decide +kernel
theorem dB_deposit_28 : decode cB_deposit 28 = .ok (.dup, 1) := by decide +kernel
theorem dB_deposit_29 : decode cB_deposit 29 = .ok (.invokespecial 72, 3) := by decide +kernel
theorem dB_deposit_32 : decode cB_deposit 32 = .ok (.athrow, 1) := by decide +kernel
theorem dB_deposit_33 : decode cB_deposit 33 = .ok (.aload_n 0, 1) := by decide +kernel
theorem dB_deposit_34 : decode cB_deposit 34 = .ok (.aload_n 3, 1) := by decide +kernel
theorem dB_deposit_35 : decode cB_deposit 35 = .ok (.invokevirtual 145, 3) := by decide +kernel
theorem dB_deposit_38 : decode cB_deposit 38 = .ok (.invokevirtual 149, 3) := by decide +kernel
theorem dB_deposit_41 : decode cB_deposit 41 = .ok (.astore 4, 2) := by decide +kernel
theorem dB_deposit_43 : decode cB_deposit 43 = .ok (.aload 4, 2) := by decide +kernel
theorem dB_deposit_45 : decode cB_deposit 45 = .ok (.ifnull 34, 3) := by decide +kernel
theorem dB_deposit_48 : decode cB_deposit 48 = .ok (.aload_n 0, 1) := by decide +kernel
theorem dB_deposit_49 : decode cB_deposit 49 = .ok (.dup, 1) := by decide +kernel
theorem dB_deposit_50 : decode cB_deposit 50 = .ok (.getfield 58, 3) := by decide +kernel
theorem dB_deposit_53 : decode cB_deposit 53 = .ok (.iconst 1, 1) := by decide +kernel
theorem dB_deposit_54 : decode cB_deposit 54 = .ok (.iadd, 1) := by decide +kernel
theorem dB_deposit_55 : decode cB_deposit 55 = .ok (.putfield 58, 3) := by decide +kernel
theorem dB_deposit_58 : decode cB_deposit 58 = .ok (.aload_n 0, 1) := by decide +kernel
theorem dB_deposit_59 : decode cB_deposit 59 = .ok (.aload 4, 2) := by decide +kernel
theorem dB_deposit_61 : decode cB_deposit 61 = .ok (.aload_n 3, 1) := by decide +kernel
theorem dB_deposit_62 : decode cB_deposit 62 = .ok (.invokevirtual 153, 3) := by decide +kernel
theorem dB_deposit_65 : decode cB_deposit 65 = .ok (.invokestatic 159, 3) := by decide +kernel
theorem dB_deposit_68 : decode cB_deposit 68 = .ok (.putfield 40, 3) := by decide +kernel
theorem dB_deposit_71 : decode cB_deposit 71 = .ok (.new 89, 3) := by decide +kernel
theorem dB_deposit_74 : decode cB_deposit 74 = .ok (.dup, 1) := by decide +kernel
theorem dB_deposit_75 : decode cB_deposit 75 = .ok (.invokespecial 91, 3) := by decide +kernel
theorem dB_deposit_78 : decode cB_deposit 78 = .ok (.athrow, 1) := by decide +kernel
theorem dB_deposit_79 : decode cB_deposit 79 = .ok (.aload_n 0, 1) := by decide +kernel
theorem dB_deposit_80 : decode cB_deposit 80 = .ok (.getfield 52, 3) := by decide +kernel
theorem dB_deposit_83 : decode cB_deposit 83 = .ok (.sipush 512, 3) := by decide +kernel
theorem dB_deposit_86 : decode cB_deposit 86 = .ok (.if_icmp .lt 11, 3) := by decide +kernel
theorem dB_deposit_89 : decode cB_deposit 89 = .ok (.new 89, 3) := by decide +kernel
theorem dB_deposit_92 : decode cB_deposit 92 = .ok (.dup, 1) := by decide +kernel
theorem dB_deposit_93 : decode cB_deposit 93 = .ok (.invokespecial 91, 3) := by decide +kernel
theorem dB_deposit_96 : decode cB_deposit 96 = .ok (.athrow, 1) := by decide +kernel
theorem dB_deposit_97 : decode cB_deposit 97 = .ok (.aload_n 0, 1) := by decide +kernel
theorem dB_deposit_98 : decode cB_deposit 98 = .ok (.new 154, 3) := by decide +kernel
theorem dB_deposit_101 : decode cB_deposit 101 = .ok (.dup, 1) := by decide +kernel
theorem dB_deposit_102 : decode cB_deposit 102 = .ok (.aload_n 3, 1) := by decide +kernel
theorem dB_deposit_103 : decode cB_deposit 103 = .ok (.aload_n 0, 1) := by decide +kernel
theorem dB_deposit_104 : decode cB_deposit 104 = .ok (.getfield 32, 3) := by decide +kernel
theorem dB_deposit_107 : decode cB_deposit 107 = .ok (.invokevirtual 162, 3) := by decide +kernel
theorem dB_deposit_110 : decode cB_deposit 110 = .ok (.checkcast 163, 3) := by decide +kernel
theorem dB_deposit_113 : decode cB_deposit 113 = .ok (.aload_n 0, 1) := by decide +kernel
theorem dB_deposit_114 : decode cB_deposit 114 = .ok (.getfield 36, 3) := by decide +kernel
theorem dB_deposit_117 : decode cB_deposit 117 = .ok (.invokespecial 167, 3) := by decide +kernel
theorem dB_deposit_120 : decode cB_deposit 120 = .ok (.putfield 36, 3) := by decide +kernel
theorem dB_deposit_123 : decode cB_deposit 123 = .ok (.aload_n 0, 1) := by decide +kernel
theorem dB_deposit_124 : decode cB_deposit 124 = .ok (.dup, 1) := by decide +kernel
theorem dB_deposit_125 : decode cB_deposit 125 = .ok (.getfield 52, 3) := by decide +kernel
theorem dB_deposit_128 : decode cB_deposit 128 = .ok (.iconst 1, 1) := by decide +kernel
theorem dB_deposit_129 : decode cB_deposit 129 = .ok (.iadd, 1) := by decide +kernel
theorem dB_deposit_130 : decode cB_deposit 130 = .ok (.putfield 52, 3) := by decide +kernel
theorem dB_deposit_133 : decode cB_deposit 133 = .ok (.getstatic 73, 3) := by decide +kernel
theorem dB_deposit_136 : decode cB_deposit 136 = .ok (.aload_n 3, 1) := by decide +kernel
theorem dB_deposit_137 : decode cB_deposit 137 = .ok (.invokevirtual 145, 3) := by decide +kernel
theorem dB_deposit_140 : decode cB_deposit 140 = .ok (.l2i, 1) := by decide +kernel
theorem dB_deposit_141 : decode cB_deposit 141 = .ok (.aaload, 1) := by decide +kernel
theorem dB_deposit_142 : decode cB_deposit 142 = .ok (.getfield 77, 3) := by decide +kernel
theorem dB_deposit_145 : decode cB_deposit 145 = .ok (.istore 5, 2) := by decide +kernel
theorem dB_deposit_147 : decode cB_deposit 147 = .ok (.aload_n 0, 1) := by decide +kernel
theorem dB_deposit_148 : decode cB_deposit 148 = .ok (.getfield 11, 3) := by decide +kernel
theorem dB_deposit_151 : decode cB_deposit 151 = .ok (.iload_n 2, 1) := by decide +kernel
theorem dB_deposit_152 : decode cB_deposit 152 = .ok (.aaload, 1) := by decide +kernel
theorem dB_deposit_153 : decode cB_deposit 153 = .ok (.dup, 1) := by decide +kernel
theorem dB_deposit_154 : decode cB_deposit 154 = .ok (.getfield 82, 3) := by decide +kernel
theorem dB_deposit_157 : decode cB_deposit 157 = .ok (.iload 5, 2) := by decide +kernel
theorem dB_deposit_159 : decode cB_deposit 159 = .ok (.iadd, 1) := by decide +kernel
theorem dB_deposit_160 : decode cB_deposit 160 = .ok (.putfield 82, 3) := by decide +kernel
theorem dB_deposit_163 : decode cB_deposit 163 = .ok (.iload 5, 2) := by decide +kernel
theorem dB_deposit_165 : decode cB_deposit 165 = .ok (.ireturn, 1) := by decide +kernel
abbrev yB_findCredit : MethodName := { cls := "BlindMint", name := "findCredit", desc := "(J)LBlindMint$Credit;" }
abbrev cB_findCredit : ByteArray := prog_1_method_24_code
theorem dB_findCredit_0 : decode cB_findCredit 0 = .ok (.aload_n 0, 1) := by decide +kernel
theorem dB_findCredit_1 : decode cB_findCredit 1 = .ok (.getfield 36, 3) := by decide +kernel
theorem dB_findCredit_4 : decode cB_findCredit 4 = .ok (.astore_n 3, 1) := by decide +kernel
theorem dB_findCredit_5 : decode cB_findCredit 5 = .ok (.aload_n 3, 1) := by decide +kernel
theorem dB_findCredit_6 : decode cB_findCredit 6 = .ok (.ifnull 25, 3) := by decide +kernel
theorem dB_findCredit_9 : decode cB_findCredit 9 = .ok (.aload_n 3, 1) := by decide +kernel
theorem dB_findCredit_10 : decode cB_findCredit 10 = .ok (.lload_n 1, 1) := by decide +kernel
theorem dB_findCredit_11 : decode cB_findCredit 11 = .ok (.aload_n 0, 1) := by decide +kernel
theorem dB_findCredit_12 : decode cB_findCredit 12 = .ok (.getfield 32, 3) := by decide +kernel
theorem dB_findCredit_15 : decode cB_findCredit 15 = .ok (.invokevirtual 228, 3) := by decide +kernel
theorem dB_findCredit_18 : decode cB_findCredit 18 = .ok (.ifCond .eq 5, 3) := by decide +kernel
theorem dB_findCredit_21 : decode cB_findCredit 21 = .ok (.aload_n 3, 1) := by decide +kernel
theorem dB_findCredit_22 : decode cB_findCredit 22 = .ok (.areturn, 1) := by decide +kernel
theorem dB_findCredit_23 : decode cB_findCredit 23 = .ok (.aload_n 3, 1) := by decide +kernel
theorem dB_findCredit_24 : decode cB_findCredit 24 = .ok (.getfield 232, 3) := by decide +kernel
theorem dB_findCredit_27 : decode cB_findCredit 27 = .ok (.astore_n 3, 1) := by decide +kernel
theorem dB_findCredit_28 : decode cB_findCredit 28 = .ok (.goto (-23), 3) := by decide +kernel
theorem dB_findCredit_31 : decode cB_findCredit 31 = .ok (.aconst_null, 1) := by decide +kernel
theorem dB_findCredit_32 : decode cB_findCredit 32 = .ok (.areturn, 1) := by decide +kernel
abbrev yB_accountOf : MethodName := { cls := "BlindMint", name := "accountOf", desc := "(J)I" }
abbrev cB_accountOf : ByteArray := prog_1_method_19_code
theorem dB_accountOf_0 : decode cB_accountOf 0 = .ok (.lload_n 0, 1) := by decide +kernel
theorem dB_accountOf_1 : decode cB_accountOf 1 = .ok (.ldc2_w 176, 3) := by decide +kernel
theorem dB_accountOf_4 : decode cB_accountOf 4 = .ok (.lcmp, 1) := by decide +kernel
theorem dB_accountOf_5 : decode cB_accountOf 5 = .ok (.ifCond .lt 15, 3) := by decide +kernel
theorem dB_accountOf_8 : decode cB_accountOf 8 = .ok (.lload_n 0, 1) := by decide +kernel
theorem dB_accountOf_9 : decode cB_accountOf 9 = .ok (.ldc2_w 178, 3) := by decide +kernel
theorem dB_accountOf_12 : decode cB_accountOf 12 = .ok (.lcmp, 1) := by decide +kernel
theorem dB_accountOf_13 : decode cB_accountOf 13 = .ok (.ifCond .ge 7, 3) := by decide +kernel
theorem dB_accountOf_16 : decode cB_accountOf 16 = .ok (.iconst 1, 1) := by decide +kernel
theorem dB_accountOf_17 : decode cB_accountOf 17 = .ok (.goto 4, 3) := by decide +kernel
theorem dB_accountOf_20 : decode cB_accountOf 20 = .ok (.iconst 0, 1) := by decide +kernel
theorem dB_accountOf_21 : decode cB_accountOf 21 = .ok (.istore_n 2, 1) := by decide +kernel
theorem dB_accountOf_22 : decode cB_accountOf 22 = .ok (.iload_n 2, 1) := by decide +kernel
theorem dB_accountOf_23 : decode cB_accountOf 23 = .ok (.ifCond .eq 12, 3) := by decide +kernel
theorem dB_accountOf_26 : decode cB_accountOf 26 = .ok (.lload_n 0, 1) := by decide +kernel
theorem dB_accountOf_27 : decode cB_accountOf 27 = .ok (.l2i, 1) := by decide +kernel
theorem dB_accountOf_28 : decode cB_accountOf 28 = .ok (.sipush 1000, 3) := by decide +kernel
theorem dB_accountOf_31 : decode cB_accountOf 31 = .ok (.isub, 1) := by decide +kernel
theorem dB_accountOf_32 : decode cB_accountOf 32 = .ok (.goto 4, 3) := by decide +kernel
theorem dB_accountOf_35 : decode cB_accountOf 35 = .ok (.iconst (-1), 1) := by decide +kernel
theorem dB_accountOf_36 : decode cB_accountOf 36 = .ok (.ireturn, 1) := by decide +kernel
abbrev yB_balance : MethodName := { cls := "BlindMint", name := "balance", desc := "(I)I" }
abbrev cB_balance : ByteArray := prog_1_method_10_code
theorem dB_balance_0 : decode cB_balance 0 = .ok (.iload_n 1, 1) := by decide +kernel
theorem dB_balance_1 : decode cB_balance 1 = .ok (.invokestatic 62, 3) := by decide +kernel
theorem dB_balance_4 : decode cB_balance 4 = .ok (.ifCond .ne 11, 3) := by decide +kernel
theorem dB_balance_7 : decode cB_balance 7 = .ok (.new 70, 3) := by decide +kernel
theorem dB_balance_10 : decode cB_balance 10 = .ok (.dup, 1) := by decide +kernel
theorem dB_balance_11 : decode cB_balance 11 = .ok (.invokespecial 72, 3) := by decide +kernel
theorem dB_balance_14 : decode cB_balance 14 = .ok (.athrow, 1) := by decide +kernel
theorem dB_balance_15 : decode cB_balance 15 = .ok (.aload_n 0, 1) := by decide +kernel
theorem dB_balance_16 : decode cB_balance 16 = .ok (.getfield 11, 3) := by decide +kernel
theorem dB_balance_19 : decode cB_balance 19 = .ok (.iload_n 1, 1) := by decide +kernel
theorem dB_balance_20 : decode cB_balance 20 = .ok (.aaload, 1) := by decide +kernel
theorem dB_balance_21 : decode cB_balance 21 = .ok (.getfield 82, 3) := by decide +kernel
theorem dB_balance_24 : decode cB_balance 24 = .ok (.ireturn, 1) := by decide +kernel
abbrev yB_coin : MethodName := { cls := "BlindMint", name := "coin", desc := "(II)J" }
abbrev cB_coin : ByteArray := prog_1_method_12_code
theorem dB_coin_0 : decode cB_coin 0 = .ok (.aload_n 0, 1) := by decide +kernel
theorem dB_coin_1 : decode cB_coin 1 = .ok (.iload_n 1, 1) := by decide +kernel
theorem dB_coin_2 : decode cB_coin 2 = .ok (.iload_n 2, 1) := by decide +kernel
theorem dB_coin_3 : decode cB_coin 3 = .ok (.invokevirtual 118, 3) := by decide +kernel
theorem dB_coin_6 : decode cB_coin 6 = .ok (.astore_n 3, 1) := by decide +kernel
theorem dB_coin_7 : decode cB_coin 7 = .ok (.aload_n 3, 1) := by decide +kernel
theorem dB_coin_8 : decode cB_coin 8 = .ok (.ifnonnull 11, 3) := by decide +kernel
theorem dB_coin_11 : decode cB_coin 11 = .ok (.new 115, 3) := by decide +kernel
theorem dB_coin_14 : decode cB_coin 14 = .ok (.dup, 1) := by decide +kernel
theorem dB_coin_15 : decode cB_coin 15 = .ok (.invokespecial 117, 3) := by decide +kernel
theorem dB_coin_18 : decode cB_coin 18 = .ok (.athrow, 1) := by decide +kernel
theorem dB_coin_19 : decode cB_coin 19 = .ok (.aload_n 3, 1) := by decide +kernel
theorem dB_coin_20 : decode cB_coin 20 = .ok (.getfield 170, 3) := by decide +kernel
theorem dB_coin_23 : decode cB_coin 23 = .ok (.lreturn, 1) := by decide +kernel
abbrev yB_signature : MethodName := { cls := "BlindMint", name := "signature", desc := "(II)J" }
abbrev cB_signature : ByteArray := prog_1_method_13_code
theorem dB_signature_0 : decode cB_signature 0 = .ok (.aload_n 0, 1) := by decide +kernel
theorem dB_signature_1 : decode cB_signature 1 = .ok (.iload_n 1, 1) := by decide +kernel
theorem dB_signature_2 : decode cB_signature 2 = .ok (.iload_n 2, 1) := by decide +kernel
theorem dB_signature_3 : decode cB_signature 3 = .ok (.invokevirtual 118, 3) := by decide +kernel
theorem dB_signature_6 : decode cB_signature 6 = .ok (.astore_n 3, 1) := by decide +kernel
theorem dB_signature_7 : decode cB_signature 7 = .ok (.aload_n 3, 1) := by decide +kernel
theorem dB_signature_8 : decode cB_signature 8 = .ok (.ifnonnull 11, 3) := by decide +kernel
theorem dB_signature_11 : decode cB_signature 11 = .ok (.new 115, 3) := by decide +kernel
theorem dB_signature_14 : decode cB_signature 14 = .ok (.dup, 1) := by decide +kernel
theorem dB_signature_15 : decode cB_signature 15 = .ok (.invokespecial 117, 3) := by decide +kernel
theorem dB_signature_18 : decode cB_signature 18 = .ok (.athrow, 1) := by decide +kernel
theorem dB_signature_19 : decode cB_signature 19 = .ok (.aload_n 3, 1) := by decide +kernel
theorem dB_signature_20 : decode cB_signature 20 = .ok (.getfield 173, 3) := by decide +kernel
theorem dB_signature_23 : decode cB_signature 23 = .ok (.lreturn, 1) := by decide +kernel
end
section
abbrev yM_init : MethodName := { cls := "BlindMintModel", name := "<init>", desc := "()V" }
abbrev cM_init : ByteArray := prog_12_method_1_code
theorem dM_init_0 : decode cM_init 0 = .ok (.aload_n 0, 1) := by decide +kernel
theorem dM_init_1 : decode cM_init 1 = .ok (.invokespecial 1, 3) := by decide +kernel
theorem dM_init_4 : decode cM_init 4 = .ok (.aload_n 0, 1) := by decide +kernel
theorem dM_init_5 : decode cM_init 5 = .ok (.iconst 4, 1) := by decide +kernel
theorem dM_init_6 : decode cM_init 6 = .ok (.newarray .int, 2) := by decide +kernel
theorem dM_init_8 : decode cM_init 8 = .ok (.putfield 7, 3) := by decide +kernel
theorem dM_init_11 : decode cM_init 11 = .ok (.aload_n 0, 1) := by decide +kernel
theorem dM_init_12 : decode cM_init 12 = .ok (.iconst 4, 1) := by decide +kernel
theorem dM_init_13 : decode cM_init 13 = .ok (.newarray .int, 2) := by decide +kernel
theorem dM_init_15 : decode cM_init 15 = .ok (.putfield 13, 3) := by decide +kernel
theorem dM_init_18 : decode cM_init 18 = .ok (.aload_n 0, 1) := by decide +kernel
theorem dM_init_19 : decode cM_init 19 = .ok (.iconst (-1), 1) := by decide +kernel
theorem dM_init_20 : decode cM_init 20 = .ok (.putfield 16, 3) := by decide +kernel
theorem dM_init_23 : decode cM_init 23 = .ok (.aload_n 0, 1) := by decide +kernel
theorem dM_init_24 : decode cM_init 24 = .ok (.ldc2_w 20, 3) := by decide +kernel
theorem dM_init_27 : decode cM_init 27 = .ok (.putfield 22, 3) := by decide +kernel
theorem dM_init_30 : decode cM_init 30 = .ok (.aload_n 0, 1) := by decide +kernel
theorem dM_init_31 : decode cM_init 31 = .ok (.iconst 4, 1) := by decide +kernel
theorem dM_init_32 : decode cM_init 32 = .ok (.newarray .int, 2) := by decide +kernel
theorem dM_init_34 : decode cM_init 34 = .ok (.putfield 26, 3) := by decide +kernel
theorem dM_init_37 : decode cM_init 37 = .ok (.aload_n 0, 1) := by decide +kernel
theorem dM_init_38 : decode cM_init 38 = .ok (.bipush 32, 2) := by decide +kernel
theorem dM_init_40 : decode cM_init 40 = .ok (.newarray .int, 2) := by decide +kernel
theorem dM_init_42 : decode cM_init 42 = .ok (.putfield 29, 3) := by decide +kernel
theorem dM_init_45 : decode cM_init 45 = .ok (.aload_n 0, 1) := by decide +kernel
theorem dM_init_46 : decode cM_init 46 = .ok (.bipush 32, 2) := by decide +kernel
theorem dM_init_48 : decode cM_init 48 = .ok (.newarray .long, 2) := by decide +kernel
theorem dM_init_50 : decode cM_init 50 = .ok (.putfield 32, 3) := by decide +kernel
theorem dM_init_53 : decode cM_init 53 = .ok (.aload_n 0, 1) := by decide +kernel
theorem dM_init_54 : decode cM_init 54 = .ok (.bipush 32, 2) := by decide +kernel
theorem dM_init_56 : decode cM_init 56 = .ok (.newarray .long, 2) := by decide +kernel
theorem dM_init_58 : decode cM_init 58 = .ok (.putfield 36, 3) := by decide +kernel
theorem dM_init_61 : decode cM_init 61 = .ok (.aload_n 0, 1) := by decide +kernel
theorem dM_init_62 : decode cM_init 62 = .ok (.bipush 32, 2) := by decide +kernel
theorem dM_init_64 : decode cM_init 64 = .ok (.newarray .boolean, 2) := by decide +kernel
theorem dM_init_66 : decode cM_init 66 = .ok (.putfield 39, 3) := by decide +kernel
theorem dM_init_69 : decode cM_init 69 = .ok (.aload_n 0, 1) := by decide +kernel
theorem dM_init_70 : decode cM_init 70 = .ok (.sipush 512, 3) := by decide +kernel
theorem dM_init_73 : decode cM_init 73 = .ok (.newarray .long, 2) := by decide +kernel
theorem dM_init_75 : decode cM_init 75 = .ok (.putfield 43, 3) := by decide +kernel
theorem dM_init_78 : decode cM_init 78 = .ok (.aload_n 0, 1) := by decide +kernel
theorem dM_init_79 : decode cM_init 79 = .ok (.sipush 320, 3) := by decide +kernel
theorem dM_init_82 : decode cM_init 82 = .ok (.newarray .long, 2) := by decide +kernel
theorem dM_init_84 : decode cM_init 84 = .ok (.putfield 46, 3) := by decide +kernel
theorem dM_init_87 : decode cM_init 87 = .ok (.aload_n 0, 1) := by decide +kernel
theorem dM_init_88 : decode cM_init 88 = .ok (.sipush 5200, 3) := by decide +kernel
theorem dM_init_91 : decode cM_init 91 = .ok (.newarray .long, 2) := by decide +kernel
theorem dM_init_93 : decode cM_init 93 = .ok (.putfield 49, 3) := by decide +kernel
theorem dM_init_96 : decode cM_init 96 = .ok (.aload_n 0, 1) := by decide +kernel
theorem dM_init_97 : decode cM_init 97 = .ok (.bipush 6, 2) := by decide +kernel
theorem dM_init_99 : decode cM_init 99 = .ok (.newarray .long, 2) := by decide +kernel
theorem dM_init_101 : decode cM_init 101 = .ok (.putfield 52, 3) := by decide +kernel
theorem dM_init_104 : decode cM_init 104 = .ok (.aload_n 0, 1) := by decide +kernel
theorem dM_init_105 : decode cM_init 105 = .ok (.bipush 6, 2) := by decide +kernel
theorem dM_init_107 : decode cM_init 107 = .ok (.newarray .long, 2) := by decide +kernel
theorem dM_init_109 : decode cM_init 109 = .ok (.putfield 55, 3) := by decide +kernel
theorem dM_init_112 : decode cM_init 112 = .ok (.aload_n 0, 1) := by decide +kernel
theorem dM_init_113 : decode cM_init 113 = .ok (.bipush 6, 2) := by decide +kernel
theorem dM_init_115 : decode cM_init 115 = .ok (.newarray .long, 2) := by decide +kernel
theorem dM_init_117 : decode cM_init 117 = .ok (.putfield 58, 3) := by decide +kernel
theorem dM_init_120 : decode cM_init 120 = .ok (.aload_n 0, 1) := by decide +kernel
theorem dM_init_121 : decode cM_init 121 = .ok (.bipush 6, 2) := by decide +kernel
theorem dM_init_123 : decode cM_init 123 = .ok (.newarray .long, 2) := by decide +kernel
theorem dM_init_125 : decode cM_init 125 = .ok (.putfield 61, 3) := by decide +kernel
theorem dM_init_128 : decode cM_init 128 = .ok (.aload_n 0, 1) := by decide +kernel
theorem dM_init_129 : decode cM_init 129 = .ok (.bipush 6, 2) := by decide +kernel
theorem dM_init_131 : decode cM_init 131 = .ok (.newarray .long, 2) := by decide +kernel
theorem dM_init_133 : decode cM_init 133 = .ok (.putfield 64, 3) := by decide +kernel
theorem dM_init_136 : decode cM_init 136 = .ok (.aload_n 0, 1) := by decide +kernel
theorem dM_init_137 : decode cM_init 137 = .ok (.bipush 6, 2) := by decide +kernel
theorem dM_init_139 : decode cM_init 139 = .ok (.newarray .boolean, 2) := by decide +kernel
theorem dM_init_141 : decode cM_init 141 = .ok (.putfield 67, 3) := by decide +kernel
theorem dM_init_144 : decode cM_init 144 = .ok (.aload_n 0, 1) := by decide +kernel
theorem dM_init_145 : decode cM_init 145 = .ok (.iconst 4, 1) := by decide +kernel
theorem dM_init_146 : decode cM_init 146 = .ok (.newarray .long, 2) := by decide +kernel
theorem dM_init_148 : decode cM_init 148 = .ok (.putfield 70, 3) := by decide +kernel
theorem dM_init_151 : decode cM_init 151 = .ok (.iconst 0, 1) := by decide +kernel
theorem dM_init_152 : decode cM_init 152 = .ok (.istore_n 1, 1) := by decide +kernel
theorem dM_init_153 : decode cM_init 153 = .ok (.iload_n 1, 1) := by decide +kernel
theorem dM_init_154 : decode cM_init 154 = .ok (.iconst 4, 1) := by decide +kernel
theorem dM_init_155 : decode cM_init 155 = .ok (.if_icmp .ge 17, 3) := by decide +kernel
theorem dM_init_158 : decode cM_init 158 = .ok (.aload_n 0, 1) := by decide +kernel
theorem dM_init_159 : decode cM_init 159 = .ok (.getfield 7, 3) := by decide +kernel
theorem dM_init_162 : decode cM_init 162 = .ok (.iload_n 1, 1) := by decide +kernel
theorem dM_init_163 : decode cM_init 163 = .ok (.bipush 100, 2) := by decide +kernel
theorem dM_init_165 : decode cM_init 165 = .ok (.iastore, 1) := by decide +kernel
theorem dM_init_166 : decode cM_init 166 = .ok (.iinc 1 1, 3) := by decide +kernel
theorem dM_init_169 : decode cM_init 169 = .ok (.goto (-16), 3) := by decide +kernel
theorem dM_init_172 : decode cM_init 172 = .ok (.return_, 1) := by decide +kernel
abbrev yM_thrown : MethodName := { cls := "BlindMintModel", name := "thrown", desc := "()I" }
abbrev cM_thrown : ByteArray := prog_12_method_3_code
theorem dM_thrown_0 : decode cM_thrown 0 = .ok (.aload_n 0, 1) := by decide +kernel
theorem dM_thrown_1 : decode cM_thrown 1 = .ok (.getfield 73, 3) := by decide +kernel
theorem dM_thrown_4 : decode cM_thrown 4 = .ok (.ireturn, 1) := by decide +kernel
abbrev yM_withdraw : MethodName := { cls := "BlindMintModel", name := "withdraw", desc := "(IIJI)I" }
abbrev cM_withdraw : ByteArray := prog_12_method_21_code
theorem dM_withdraw_0 : decode cM_withdraw 0 = .ok (.aload_n 0, 1) := by decide +kernel
theorem dM_withdraw_1 : decode cM_withdraw 1 = .ok (.iconst 0, 1) := by decide +kernel
theorem dM_withdraw_2 : decode cM_withdraw 2 = .ok (.putfield 73, 3) := by decide +kernel
theorem dM_withdraw_5 : decode cM_withdraw 5 = .ok (.iload_n 1, 1) := by decide +kernel
theorem dM_withdraw_6 : decode cM_withdraw 6 = .ok (.iconst 4, 1) := by decide +kernel
theorem dM_withdraw_7 : decode cM_withdraw 7 = .ok (.invokestatic 136, 3) := by decide +kernel
theorem dM_withdraw_10 : decode cM_withdraw 10 = .ok (.ifCond .eq 21, 3) := by decide +kernel
theorem dM_withdraw_13 : decode cM_withdraw 13 = .ok (.iload_n 2, 1) := by decide +kernel
theorem dM_withdraw_14 : decode cM_withdraw 14 = .ok (.iconst 3, 1) := by decide +kernel
theorem dM_withdraw_15 : decode cM_withdraw 15 = .ok (.invokestatic 136, 3) := by decide +kernel
theorem dM_withdraw_18 : decode cM_withdraw 18 = .ok (.ifCond .eq 13, 3) := by decide +kernel
theorem dM_withdraw_21 : decode cM_withdraw 21 = .ok (.iload 5, 2) := by decide +kernel
theorem dM_withdraw_23 : decode cM_withdraw 23 = .ok (.bipush 64, 2) := by decide +kernel
theorem dM_withdraw_25 : decode cM_withdraw 25 = .ok (.invokestatic 136, 3) := by decide +kernel
theorem dM_withdraw_28 : decode cM_withdraw 28 = .ok (.ifCond .ne 9, 3) := by decide +kernel
theorem dM_withdraw_31 : decode cM_withdraw 31 = .ok (.aload_n 0, 1) := by decide +kernel
theorem dM_withdraw_32 : decode cM_withdraw 32 = .ok (.iconst 1, 1) := by decide +kernel
theorem dM_withdraw_33 : decode cM_withdraw 33 = .ok (.invokevirtual 140, 3) := by decide +kernel
theorem dM_withdraw_36 : decode cM_withdraw 36 = .ok (.ireturn, 1) := by decide +kernel
theorem dM_withdraw_37 : decode cM_withdraw 37 = .ok (.aload_n 0, 1) := by decide +kernel
theorem dM_withdraw_38 : decode cM_withdraw 38 = .ok (.getfield 7, 3) := by decide +kernel
theorem dM_withdraw_41 : decode cM_withdraw 41 = .ok (.iload_n 1, 1) := by decide +kernel
theorem dM_withdraw_42 : decode cM_withdraw 42 = .ok (.iaload, 1) := by decide +kernel
theorem dM_withdraw_43 : decode cM_withdraw 43 = .ok (.iload_n 2, 1) := by decide +kernel
theorem dM_withdraw_44 : decode cM_withdraw 44 = .ok (.invokestatic 144, 3) := by decide +kernel
theorem dM_withdraw_47 : decode cM_withdraw 47 = .ok (.if_icmp .lt 14, 3) := by decide +kernel
theorem dM_withdraw_50 : decode cM_withdraw 50 = .ok (.aload_n 0, 1) := by decide +kernel
theorem dM_withdraw_51 : decode cM_withdraw 51 = .ok (.getfield 26, 3) := by decide +kernel
theorem dM_withdraw_54 : decode cM_withdraw 54 = .ok (.iload_n 1, 1) := by decide +kernel
theorem dM_withdraw_55 : decode cM_withdraw 55 = .ok (.iaload, 1) := by decide +kernel
theorem dM_withdraw_56 : decode cM_withdraw 56 = .ok (.bipush 8, 2) := by decide +kernel
theorem dM_withdraw_58 : decode cM_withdraw 58 = .ok (.if_icmp .ne 9, 3) := by decide +kernel
theorem dM_withdraw_61 : decode cM_withdraw 61 = .ok (.aload_n 0, 1) := by decide +kernel
theorem dM_withdraw_62 : decode cM_withdraw 62 = .ok (.iconst 2, 1) := by decide +kernel
theorem dM_withdraw_63 : decode cM_withdraw 63 = .ok (.invokevirtual 140, 3) := by decide +kernel
theorem dM_withdraw_66 : decode cM_withdraw 66 = .ok (.ireturn, 1) := by decide +kernel
theorem dM_withdraw_67 : decode cM_withdraw 67 = .ok (.aload_n 0, 1) := by decide +kernel
theorem dM_withdraw_68 : decode cM_withdraw 68 = .ok (.iload_n 1, 1) := by decide +kernel
theorem dM_withdraw_69 : decode cM_withdraw 69 = .ok (.lload_n 3, 1) := by decide +kernel
theorem dM_withdraw_70 : decode cM_withdraw 70 = .ok (.iload 5, 2) := by decide +kernel
theorem dM_withdraw_72 : decode cM_withdraw 72 = .ok (.invokevirtual 147, 3) := by decide +kernel
theorem dM_withdraw_75 : decode cM_withdraw 75 = .ok (.aload_n 0, 1) := by decide +kernel
theorem dM_withdraw_76 : decode cM_withdraw 76 = .ok (.iload 5, 2) := by decide +kernel
theorem dM_withdraw_78 : decode cM_withdraw 78 = .ok (.invokevirtual 151, 3) := by decide +kernel
theorem dM_withdraw_81 : decode cM_withdraw 81 = .ok (.istore 6, 2) := by decide +kernel
theorem dM_withdraw_83 : decode cM_withdraw 83 = .ok (.iload 6, 2) := by decide +kernel
theorem dM_withdraw_85 : decode cM_withdraw 85 = .ok (.ifCond .le 30, 3) := by decide +kernel
theorem dM_withdraw_88 : decode cM_withdraw 88 = .ok (.aload_n 0, 1) := by decide +kernel
theorem dM_withdraw_89 : decode cM_withdraw 89 = .ok (.getfield 7, 3) := by decide +kernel
theorem dM_withdraw_92 : decode cM_withdraw 92 = .ok (.iload_n 1, 1) := by decide +kernel
theorem dM_withdraw_93 : decode cM_withdraw 93 = .ok (.dup2, 1) := by decide +kernel
theorem dM_withdraw_94 : decode cM_withdraw 94 = .ok (.iaload, 1) := by decide +kernel
theorem dM_withdraw_95 : decode cM_withdraw 95 = .ok (.iconst 1, 1) := by decide +kernel
theorem dM_withdraw_96 : decode cM_withdraw 96 = .ok (.isub, 1) := by decide +kernel
theorem dM_withdraw_97 : decode cM_withdraw 97 = .ok (.iastore, 1) := by decide +kernel
theorem dM_withdraw_98 : decode cM_withdraw 98 = .ok (.aload_n 0, 1) := by decide +kernel
theorem dM_withdraw_99 : decode cM_withdraw 99 = .ok (.getfield 13, 3) := by decide +kernel
theorem dM_withdraw_102 : decode cM_withdraw 102 = .ok (.iconst 2, 1) := by decide +kernel
theorem dM_withdraw_103 : decode cM_withdraw 103 = .ok (.dup2, 1) := by decide +kernel
theorem dM_withdraw_104 : decode cM_withdraw 104 = .ok (.iaload, 1) := by decide +kernel
theorem dM_withdraw_105 : decode cM_withdraw 105 = .ok (.iload 6, 2) := by decide +kernel
theorem dM_withdraw_107 : decode cM_withdraw 107 = .ok (.iadd, 1) := by decide +kernel
theorem dM_withdraw_108 : decode cM_withdraw 108 = .ok (.iastore, 1) := by decide +kernel
theorem dM_withdraw_109 : decode cM_withdraw 109 = .ok (.aload_n 0, 1) := by decide +kernel
theorem dM_withdraw_110 : decode cM_withdraw 110 = .ok (.iconst 2, 1) := by decide +kernel
theorem dM_withdraw_111 : decode cM_withdraw 111 = .ok (.invokevirtual 140, 3) := by decide +kernel
theorem dM_withdraw_114 : decode cM_withdraw 114 = .ok (.ireturn, 1) := by decide +kernel
theorem dM_withdraw_115 : decode cM_withdraw 115 = .ok (.bipush 8, 2) := by decide +kernel
theorem dM_withdraw_117 : decode cM_withdraw 117 = .ok (.iload_n 1, 1) := by decide +kernel
theorem dM_withdraw_118 : decode cM_withdraw 118 = .ok (.imul, 1) := by decide +kernel
theorem dM_withdraw_119 : decode cM_withdraw 119 = .ok (.aload_n 0, 1) := by decide +kernel
theorem dM_withdraw_120 : decode cM_withdraw 120 = .ok (.getfield 26, 3) := by decide +kernel
theorem dM_withdraw_123 : decode cM_withdraw 123 = .ok (.iload_n 1, 1) := by decide +kernel
theorem dM_withdraw_124 : decode cM_withdraw 124 = .ok (.iaload, 1) := by decide +kernel
theorem dM_withdraw_125 : decode cM_withdraw 125 = .ok (.iadd, 1) := by decide +kernel
theorem dM_withdraw_126 : decode cM_withdraw 126 = .ok (.istore 7, 2) := by decide +kernel
theorem dM_withdraw_128 : decode cM_withdraw 128 = .ok (.iconst 0, 1) := by decide +kernel
theorem dM_withdraw_129 : decode cM_withdraw 129 = .ok (.istore 8, 2) := by decide +kernel
theorem dM_withdraw_131 : decode cM_withdraw 131 = .ok (.iload 8, 2) := by decide +kernel
theorem dM_withdraw_133 : decode cM_withdraw 133 = .ok (.iconst 4, 1) := by decide +kernel
theorem dM_withdraw_134 : decode cM_withdraw 134 = .ok (.if_icmp .ge 131, 3) := by decide +kernel
theorem dM_withdraw_137 : decode cM_withdraw 137 = .ok (.aload_n 0, 1) := by decide +kernel
theorem dM_withdraw_138 : decode cM_withdraw 138 = .ok (.invokevirtual 154, 3) := by decide +kernel
theorem dM_withdraw_141 : decode cM_withdraw 141 = .ok (.istore 9, 2) := by decide +kernel
theorem dM_withdraw_143 : decode cM_withdraw 143 = .ok (.aload_n 0, 1) := by decide +kernel
theorem dM_withdraw_144 : decode cM_withdraw 144 = .ok (.getfield 67, 3) := by decide +kernel
theorem dM_withdraw_147 : decode cM_withdraw 147 = .ok (.iload 9, 2) := by decide +kernel
theorem dM_withdraw_149 : decode cM_withdraw 149 = .ok (.iconst 0, 1) := by decide +kernel
theorem dM_withdraw_150 : decode cM_withdraw 150 = .ok (.bastore, 1) := by decide +kernel
theorem dM_withdraw_151 : decode cM_withdraw 151 = .ok (.aload_n 0, 1) := by decide +kernel
theorem dM_withdraw_152 : decode cM_withdraw 152 = .ok (.getfield 70, 3) := by decide +kernel
theorem dM_withdraw_155 : decode cM_withdraw 155 = .ok (.iload 8, 2) := by decide +kernel
theorem dM_withdraw_157 : decode cM_withdraw 157 = .ok (.aload_n 0, 1) := by decide +kernel
theorem dM_withdraw_158 : decode cM_withdraw 158 = .ok (.getfield 64, 3) := by decide +kernel
theorem dM_withdraw_161 : decode cM_withdraw 161 = .ok (.iload 9, 2) := by decide +kernel
theorem dM_withdraw_163 : decode cM_withdraw 163 = .ok (.laload, 1) := by decide +kernel
theorem dM_withdraw_164 : decode cM_withdraw 164 = .ok (.lastore, 1) := by decide +kernel
theorem dM_withdraw_165 : decode cM_withdraw 165 = .ok (.aload_n 0, 1) := by decide +kernel
theorem dM_withdraw_166 : decode cM_withdraw 166 = .ok (.getfield 43, 3) := by decide +kernel
theorem dM_withdraw_169 : decode cM_withdraw 169 = .ok (.bipush 16, 2) := by decide +kernel
theorem dM_withdraw_171 : decode cM_withdraw 171 = .ok (.iload 7, 2) := by decide +kernel
theorem dM_withdraw_173 : decode cM_withdraw 173 = .ok (.imul, 1) := by decide +kernel
theorem dM_withdraw_174 : decode cM_withdraw 174 = .ok (.iconst 4, 1) := by decide +kernel
theorem dM_withdraw_175 : decode cM_withdraw 175 = .ok (.iload 8, 2) := by decide +kernel
theorem dM_withdraw_177 : decode cM_withdraw 177 = .ok (.imul, 1) := by decide +kernel
theorem dM_withdraw_178 : decode cM_withdraw 178 = .ok (.iadd, 1) := by decide +kernel
theorem dM_withdraw_179 : decode cM_withdraw 179 = .ok (.aload_n 0, 1) := by decide +kernel
theorem dM_withdraw_180 : decode cM_withdraw 180 = .ok (.getfield 52, 3) := by decide +kernel
theorem dM_withdraw_183 : decode cM_withdraw 183 = .ok (.iload 9, 2) := by decide +kernel
theorem dM_withdraw_185 : decode cM_withdraw 185 = .ok (.laload, 1) := by decide +kernel
theorem dM_withdraw_186 : decode cM_withdraw 186 = .ok (.lastore, 1) := by decide +kernel
theorem dM_withdraw_187 : decode cM_withdraw 187 = .ok (.aload_n 0, 1) := by decide +kernel
theorem dM_withdraw_188 : decode cM_withdraw 188 = .ok (.getfield 43, 3) := by decide +kernel
theorem dM_withdraw_191 : decode cM_withdraw 191 = .ok (.bipush 16, 2) := by decide +kernel
theorem dM_withdraw_193 : decode cM_withdraw 193 = .ok (.iload 7, 2) := by decide +kernel
theorem dM_withdraw_195 : decode cM_withdraw 195 = .ok (.imul, 1) := by decide +kernel
theorem dM_withdraw_196 : decode cM_withdraw 196 = .ok (.iconst 4, 1) := by decide +kernel
theorem dM_withdraw_197 : decode cM_withdraw 197 = .ok (.iload 8, 2) := by decide +kernel
theorem dM_withdraw_199 : decode cM_withdraw 199 = .ok (.imul, 1) := by decide +kernel
theorem dM_withdraw_200 : decode cM_withdraw 200 = .ok (.iadd, 1) := by decide +kernel
theorem dM_withdraw_201 : decode cM_withdraw 201 = .ok (.iconst 1, 1) := by decide +kernel
theorem dM_withdraw_202 : decode cM_withdraw 202 = .ok (.iadd, 1) := by decide +kernel
theorem dM_withdraw_203 : decode cM_withdraw 203 = .ok (.aload_n 0, 1) := by decide +kernel
theorem dM_withdraw_204 : decode cM_withdraw 204 = .ok (.getfield 55, 3) := by decide +kernel
theorem dM_withdraw_207 : decode cM_withdraw 207 = .ok (.iload 9, 2) := by decide +kernel
theorem dM_withdraw_209 : decode cM_withdraw 209 = .ok (.laload, 1) := by decide +kernel
theorem dM_withdraw_210 : decode cM_withdraw 210 = .ok (.lastore, 1) := by decide +kernel
theorem dM_withdraw_211 : decode cM_withdraw 211 = .ok (.aload_n 0, 1) := by decide +kernel
theorem dM_withdraw_212 : decode cM_withdraw 212 = .ok (.getfield 43, 3) := by decide +kernel
theorem dM_withdraw_215 : decode cM_withdraw 215 = .ok (.bipush 16, 2) := by decide +kernel
theorem dM_withdraw_217 : decode cM_withdraw 217 = .ok (.iload 7, 2) := by decide +kernel
theorem dM_withdraw_219 : decode cM_withdraw 219 = .ok (.imul, 1) := by decide +kernel
theorem dM_withdraw_220 : decode cM_withdraw 220 = .ok (.iconst 4, 1) := by decide +kernel
theorem dM_withdraw_221 : decode cM_withdraw 221 = .ok (.iload 8, 2) := by decide +kernel
theorem dM_withdraw_223 : decode cM_withdraw 223 = .ok (.imul, 1) := by decide +kernel
theorem dM_withdraw_224 : decode cM_withdraw 224 = .ok (.iadd, 1) := by decide +kernel
theorem dM_withdraw_225 : decode cM_withdraw 225 = .ok (.iconst 2, 1) := by decide +kernel
theorem dM_withdraw_226 : decode cM_withdraw 226 = .ok (.iadd, 1) := by decide +kernel
theorem dM_withdraw_227 : decode cM_withdraw 227 = .ok (.aload_n 0, 1) := by decide +kernel
theorem dM_withdraw_228 : decode cM_withdraw 228 = .ok (.getfield 58, 3) := by decide +kernel
theorem dM_withdraw_231 : decode cM_withdraw 231 = .ok (.iload 9, 2) := by decide +kernel
theorem dM_withdraw_233 : decode cM_withdraw 233 = .ok (.laload, 1) := by decide +kernel
theorem dM_withdraw_234 : decode cM_withdraw 234 = .ok (.lastore, 1) := by decide +kernel
theorem dM_withdraw_235 : decode cM_withdraw 235 = .ok (.aload_n 0, 1) := by decide +kernel
theorem dM_withdraw_236 : decode cM_withdraw 236 = .ok (.getfield 43, 3) := by decide +kernel
theorem dM_withdraw_239 : decode cM_withdraw 239 = .ok (.bipush 16, 2) := by decide +kernel
theorem dM_withdraw_241 : decode cM_withdraw 241 = .ok (.iload 7, 2) := by decide +kernel
theorem dM_withdraw_243 : decode cM_withdraw 243 = .ok (.imul, 1) := by decide +kernel
theorem dM_withdraw_244 : decode cM_withdraw 244 = .ok (.iconst 4, 1) := by decide +kernel
theorem dM_withdraw_245 : decode cM_withdraw 245 = .ok (.iload 8, 2) := by decide +kernel
theorem dM_withdraw_247 : decode cM_withdraw 247 = .ok (.imul, 1) := by decide +kernel
theorem dM_withdraw_248 : decode cM_withdraw 248 = .ok (.iadd, 1) := by decide +kernel
theorem dM_withdraw_249 : decode cM_withdraw 249 = .ok (.iconst 3, 1) := by decide +kernel
theorem dM_withdraw_250 : decode cM_withdraw 250 = .ok (.iadd, 1) := by decide +kernel
theorem dM_withdraw_251 : decode cM_withdraw 251 = .ok (.aload_n 0, 1) := by decide +kernel
theorem dM_withdraw_252 : decode cM_withdraw 252 = .ok (.getfield 61, 3) := by decide +kernel
theorem dM_withdraw_255 : decode cM_withdraw 255 = .ok (.iload 9, 2) := by decide +kernel
theorem dM_withdraw_257 : decode cM_withdraw 257 = .ok (.laload, 1) := by decide +kernel
theorem dM_withdraw_258 : decode cM_withdraw 258 = .ok (.lastore, 1) := by decide +kernel
theorem dM_withdraw_259 : decode cM_withdraw 259 = .ok (.iinc 8 1, 3) := by decide +kernel
theorem dM_withdraw_262 : decode cM_withdraw 262 = .ok (.goto (-131), 3) := by decide +kernel
theorem dM_withdraw_265 : decode cM_withdraw 265 = .ok (.aload_n 0, 1) := by decide +kernel
theorem dM_withdraw_266 : decode cM_withdraw 266 = .ok (.getfield 29, 3) := by decide +kernel
theorem dM_withdraw_269 : decode cM_withdraw 269 = .ok (.iload 7, 2) := by decide +kernel
theorem dM_withdraw_271 : decode cM_withdraw 271 = .ok (.iload_n 2, 1) := by decide +kernel
theorem dM_withdraw_272 : decode cM_withdraw 272 = .ok (.iastore, 1) := by decide +kernel
theorem dM_withdraw_273 : decode cM_withdraw 273 = .ok (.aload_n 0, 1) := by decide +kernel
theorem dM_withdraw_274 : decode cM_withdraw 274 = .ok (.getfield 32, 3) := by decide +kernel
theorem dM_withdraw_277 : decode cM_withdraw 277 = .ok (.iload 7, 2) := by decide +kernel
theorem dM_withdraw_279 : decode cM_withdraw 279 = .ok (.aload_n 0, 1) := by decide +kernel
theorem dM_withdraw_280 : decode cM_withdraw 280 = .ok (.iload_n 2, 1) := by decide +kernel
theorem dM_withdraw_281 : decode cM_withdraw 281 = .ok (.i2l, 1) := by decide +kernel
theorem dM_withdraw_282 : decode cM_withdraw 282 = .ok (.invokevirtual 158, 3) := by decide +kernel
theorem dM_withdraw_285 : decode cM_withdraw 285 = .ok (.lastore, 1) := by decide +kernel
theorem dM_withdraw_286 : decode cM_withdraw 286 = .ok (.aload_n 0, 1) := by decide +kernel
theorem dM_withdraw_287 : decode cM_withdraw 287 = .ok (.getfield 36, 3) := by decide +kernel
theorem dM_withdraw_290 : decode cM_withdraw 290 = .ok (.iload 7, 2) := by decide +kernel
theorem dM_withdraw_292 : decode cM_withdraw 292 = .ok (.aload_n 0, 1) := by decide +kernel
theorem dM_withdraw_293 : decode cM_withdraw 293 = .ok (.getfield 32, 3) := by decide +kernel
theorem dM_withdraw_296 : decode cM_withdraw 296 = .ok (.iload 7, 2) := by decide +kernel
theorem dM_withdraw_298 : decode cM_withdraw 298 = .ok (.laload, 1) := by decide +kernel
theorem dM_withdraw_299 : decode cM_withdraw 299 = .ok (.iload_n 2, 1) := by decide +kernel
theorem dM_withdraw_300 : decode cM_withdraw 300 = .ok (.invokestatic 161, 3) := by decide +kernel
theorem dM_withdraw_303 : decode cM_withdraw 303 = .ok (.lastore, 1) := by decide +kernel
theorem dM_withdraw_304 : decode cM_withdraw 304 = .ok (.aload_n 0, 1) := by decide +kernel
theorem dM_withdraw_305 : decode cM_withdraw 305 = .ok (.getfield 39, 3) := by decide +kernel
theorem dM_withdraw_308 : decode cM_withdraw 308 = .ok (.iload 7, 2) := by decide +kernel
theorem dM_withdraw_310 : decode cM_withdraw 310 = .ok (.iconst 0, 1) := by decide +kernel
theorem dM_withdraw_311 : decode cM_withdraw 311 = .ok (.bastore, 1) := by decide +kernel
theorem dM_withdraw_312 : decode cM_withdraw 312 = .ok (.aload_n 0, 1) := by decide +kernel
theorem dM_withdraw_313 : decode cM_withdraw 313 = .ok (.aload_n 0, 1) := by decide +kernel
theorem dM_withdraw_314 : decode cM_withdraw 314 = .ok (.getfield 32, 3) := by decide +kernel
theorem dM_withdraw_317 : decode cM_withdraw 317 = .ok (.iload 7, 2) := by decide +kernel
theorem dM_withdraw_319 : decode cM_withdraw 319 = .ok (.laload, 1) := by decide +kernel
theorem dM_withdraw_320 : decode cM_withdraw 320 = .ok (.lload_n 3, 1) := by decide +kernel
theorem dM_withdraw_321 : decode cM_withdraw 321 = .ok (.iload_n 2, 1) := by decide +kernel
theorem dM_withdraw_322 : decode cM_withdraw 322 = .ok (.invokestatic 165, 3) := by decide +kernel
theorem dM_withdraw_325 : decode cM_withdraw 325 = .ok (.putfield 22, 3) := by decide +kernel
theorem dM_withdraw_328 : decode cM_withdraw 328 = .ok (.aload_n 0, 1) := by decide +kernel
theorem dM_withdraw_329 : decode cM_withdraw 329 = .ok (.getfield 7, 3) := by decide +kernel
theorem dM_withdraw_332 : decode cM_withdraw 332 = .ok (.iload_n 1, 1) := by decide +kernel
theorem dM_withdraw_333 : decode cM_withdraw 333 = .ok (.dup2, 1) := by decide +kernel
theorem dM_withdraw_334 : decode cM_withdraw 334 = .ok (.iaload, 1) := by decide +kernel
theorem dM_withdraw_335 : decode cM_withdraw 335 = .ok (.iload_n 2, 1) := by decide +kernel
theorem dM_withdraw_336 : decode cM_withdraw 336 = .ok (.invokestatic 144, 3) := by decide +kernel
theorem dM_withdraw_339 : decode cM_withdraw 339 = .ok (.isub, 1) := by decide +kernel
theorem dM_withdraw_340 : decode cM_withdraw 340 = .ok (.iastore, 1) := by decide +kernel
theorem dM_withdraw_341 : decode cM_withdraw 341 = .ok (.aload_n 0, 1) := by decide +kernel
theorem dM_withdraw_342 : decode cM_withdraw 342 = .ok (.getfield 13, 3) := by decide +kernel
theorem dM_withdraw_345 : decode cM_withdraw 345 = .ok (.iconst 0, 1) := by decide +kernel
theorem dM_withdraw_346 : decode cM_withdraw 346 = .ok (.dup2, 1) := by decide +kernel
theorem dM_withdraw_347 : decode cM_withdraw 347 = .ok (.iaload, 1) := by decide +kernel
theorem dM_withdraw_348 : decode cM_withdraw 348 = .ok (.iconst 1, 1) := by decide +kernel
theorem dM_withdraw_349 : decode cM_withdraw 349 = .ok (.iadd, 1) := by decide +kernel
theorem dM_withdraw_350 : decode cM_withdraw 350 = .ok (.iastore, 1) := by decide +kernel
theorem dM_withdraw_351 : decode cM_withdraw 351 = .ok (.aload_n 0, 1) := by decide +kernel
theorem dM_withdraw_352 : decode cM_withdraw 352 = .ok (.getfield 26, 3) := by decide +kernel
theorem dM_withdraw_355 : decode cM_withdraw 355 = .ok (.iload_n 1, 1) := by decide +kernel
theorem dM_withdraw_356 : decode cM_withdraw 356 = .ok (.dup2, 1) := by decide +kernel
theorem dM_withdraw_357 : decode cM_withdraw 357 = .ok (.iaload, 1) := by decide +kernel
theorem dM_withdraw_358 : decode cM_withdraw 358 = .ok (.iconst 1, 1) := by decide +kernel
theorem dM_withdraw_359 : decode cM_withdraw 359 = .ok (.iadd, 1) := by decide +kernel
theorem dM_withdraw_360 : decode cM_withdraw 360 = .ok (.iastore, 1) := by decide +kernel
theorem dM_withdraw_361 : decode cM_withdraw 361 = .ok (.aload_n 0, 1) := by decide +kernel
theorem dM_withdraw_362 : decode cM_withdraw 362 = .ok (.getfield 26, 3) := by decide +kernel
theorem dM_withdraw_365 : decode cM_withdraw 365 = .ok (.iload_n 1, 1) := by decide +kernel
theorem dM_withdraw_366 : decode cM_withdraw 366 = .ok (.iaload, 1) := by decide +kernel
theorem dM_withdraw_367 : decode cM_withdraw 367 = .ok (.iconst 1, 1) := by decide +kernel
theorem dM_withdraw_368 : decode cM_withdraw 368 = .ok (.isub, 1) := by decide +kernel
theorem dM_withdraw_369 : decode cM_withdraw 369 = .ok (.ireturn, 1) := by decide +kernel
abbrev yM_below : MethodName := { cls := "BlindMintModel", name := "below", desc := "(II)Z" }
abbrev cM_below : ByteArray := prog_12_method_4_code
theorem dM_below_0 : decode cM_below 0 = .ok (.iload_n 0, 1) := by decide +kernel
theorem dM_below_1 : decode cM_below 1 = .ok (.ifCond .lt 12, 3) := by decide +kernel
theorem dM_below_4 : decode cM_below 4 = .ok (.iload_n 0, 1) := by decide +kernel
theorem dM_below_5 : decode cM_below 5 = .ok (.iload_n 1, 1) := by decide +kernel
theorem dM_below_6 : decode cM_below 6 = .ok (.if_icmp .ge 7, 3) := by decide +kernel
theorem dM_below_9 : decode cM_below 9 = .ok (.iconst 1, 1) := by decide +kernel
theorem dM_below_10 : decode cM_below 10 = .ok (.goto 4, 3) := by decide +kernel
theorem dM_below_13 : decode cM_below 13 = .ok (.iconst 0, 1) := by decide +kernel
theorem dM_below_14 : decode cM_below 14 = .ok (.ireturn, 1) := by decide +kernel
abbrev yM_fail : MethodName := { cls := "BlindMintModel", name := "fail", desc := "(I)I" }
abbrev cM_fail : ByteArray := prog_12_method_2_code
theorem dM_fail_0 : decode cM_fail 0 = .ok (.aload_n 0, 1) := by decide +kernel
theorem dM_fail_1 : decode cM_fail 1 = .ok (.iload_n 1, 1) := by decide +kernel
theorem dM_fail_2 : decode cM_fail 2 = .ok (.putfield 73, 3) := by decide +kernel
theorem dM_fail_5 : decode cM_fail 5 = .ok (.iconst 0, 1) := by decide +kernel
theorem dM_fail_6 : decode cM_fail 6 = .ok (.ireturn, 1) := by decide +kernel
abbrev yM_worth : MethodName := { cls := "BlindMintModel", name := "worth", desc := "(I)I" }
abbrev cM_worth : ByteArray := prog_12_method_11_code
theorem dM_worth_0 : decode cM_worth 0 = .ok (.iload_n 0, 1) := by decide +kernel
theorem dM_worth_1 : decode cM_worth 1 = .ok (.ifCond .ne 7, 3) := by decide +kernel
theorem dM_worth_4 : decode cM_worth 4 = .ok (.iconst 1, 1) := by decide +kernel
theorem dM_worth_5 : decode cM_worth 5 = .ok (.goto 14, 3) := by decide +kernel
theorem dM_worth_8 : decode cM_worth 8 = .ok (.iload_n 0, 1) := by decide +kernel
theorem dM_worth_9 : decode cM_worth 9 = .ok (.iconst 1, 1) := by decide +kernel
theorem dM_worth_10 : decode cM_worth 10 = .ok (.if_icmp .ne 7, 3) := by decide +kernel
theorem dM_worth_13 : decode cM_worth 13 = .ok (.iconst 5, 1) := by decide +kernel
theorem dM_worth_14 : decode cM_worth 14 = .ok (.goto 5, 3) := by decide +kernel
theorem dM_worth_17 : decode cM_worth 17 = .ok (.bipush 20, 2) := by decide +kernel
theorem dM_worth_19 : decode cM_worth 19 = .ok (.ireturn, 1) := by decide +kernel
abbrev yM_candidates : MethodName := { cls := "BlindMintModel", name := "candidates", desc := "(IJI)V" }
abbrev cM_candidates : ByteArray := prog_12_method_18_code
theorem dM_candidates_0 : decode cM_candidates 0 = .ok (.iconst 0, 1) := by decide +kernel
theorem dM_candidates_1 : decode cM_candidates 1 = .ok (.istore 5, 2) := by decide +kernel
theorem dM_candidates_3 : decode cM_candidates 3 = .ok (.iload 5, 2) := by decide +kernel
theorem dM_candidates_5 : decode cM_candidates 5 = .ok (.bipush 6, 2) := by decide +kernel
theorem dM_candidates_7 : decode cM_candidates 7 = .ok (.if_icmp .ge 155, 3) := by decide +kernel
theorem dM_candidates_10 : decode cM_candidates 10 = .ok (.aload_n 0, 1) := by decide +kernel
theorem dM_candidates_11 : decode cM_candidates 11 = .ok (.getfield 52, 3) := by decide +kernel
theorem dM_candidates_14 : decode cM_candidates 14 = .ok (.iload 5, 2) := by decide +kernel
theorem dM_candidates_16 : decode cM_candidates 16 = .ok (.lload_n 2, 1) := by decide +kernel
theorem dM_candidates_17 : decode cM_candidates 17 = .ok (.ldc2_w 128, 3) := by decide +kernel
theorem dM_candidates_20 : decode cM_candidates 20 = .ok (.iload 5, 2) := by decide +kernel
theorem dM_candidates_22 : decode cM_candidates 22 = .ok (.i2l, 1) := by decide +kernel
theorem dM_candidates_23 : decode cM_candidates 23 = .ok (.lmul, 1) := by decide +kernel
theorem dM_candidates_24 : decode cM_candidates 24 = .ok (.invokestatic 125, 3) := by decide +kernel
theorem dM_candidates_27 : decode cM_candidates 27 = .ok (.lastore, 1) := by decide +kernel
theorem dM_candidates_28 : decode cM_candidates 28 = .ok (.aload_n 0, 1) := by decide +kernel
theorem dM_candidates_29 : decode cM_candidates 29 = .ok (.getfield 58, 3) := by decide +kernel
theorem dM_candidates_32 : decode cM_candidates 32 = .ok (.iload 5, 2) := by decide +kernel
theorem dM_candidates_34 : decode cM_candidates 34 = .ok (.lload_n 2, 1) := by decide +kernel
theorem dM_candidates_35 : decode cM_candidates 35 = .ok (.ldc2_w 128, 3) := by decide +kernel
theorem dM_candidates_38 : decode cM_candidates 38 = .ok (.iload 5, 2) := by decide +kernel
theorem dM_candidates_40 : decode cM_candidates 40 = .ok (.i2l, 1) := by decide +kernel
theorem dM_candidates_41 : decode cM_candidates 41 = .ok (.lmul, 1) := by decide +kernel
theorem dM_candidates_42 : decode cM_candidates 42 = .ok (.lconst 1, 1) := by decide +kernel
theorem dM_candidates_43 : decode cM_candidates 43 = .ok (.ladd, 1) := by decide +kernel
theorem dM_candidates_44 : decode cM_candidates 44 = .ok (.invokestatic 125, 3) := by decide +kernel
theorem dM_candidates_47 : decode cM_candidates 47 = .ok (.lastore, 1) := by decide +kernel
theorem dM_candidates_48 : decode cM_candidates 48 = .ok (.aload_n 0, 1) := by decide +kernel
theorem dM_candidates_49 : decode cM_candidates 49 = .ok (.getfield 61, 3) := by decide +kernel
theorem dM_candidates_52 : decode cM_candidates 52 = .ok (.iload 5, 2) := by decide +kernel
theorem dM_candidates_54 : decode cM_candidates 54 = .ok (.lload_n 2, 1) := by decide +kernel
theorem dM_candidates_55 : decode cM_candidates 55 = .ok (.ldc2_w 128, 3) := by decide +kernel
theorem dM_candidates_58 : decode cM_candidates 58 = .ok (.iload 5, 2) := by decide +kernel
theorem dM_candidates_60 : decode cM_candidates 60 = .ok (.i2l, 1) := by decide +kernel
theorem dM_candidates_61 : decode cM_candidates 61 = .ok (.lmul, 1) := by decide +kernel
theorem dM_candidates_62 : decode cM_candidates 62 = .ok (.ldc2_w 108, 3) := by decide +kernel
theorem dM_candidates_65 : decode cM_candidates 65 = .ok (.ladd, 1) := by decide +kernel
theorem dM_candidates_66 : decode cM_candidates 66 = .ok (.invokestatic 125, 3) := by decide +kernel
theorem dM_candidates_69 : decode cM_candidates 69 = .ok (.lastore, 1) := by decide +kernel
theorem dM_candidates_70 : decode cM_candidates 70 = .ok (.aload_n 0, 1) := by decide +kernel
theorem dM_candidates_71 : decode cM_candidates 71 = .ok (.getfield 55, 3) := by decide +kernel
theorem dM_candidates_74 : decode cM_candidates 74 = .ok (.iload 5, 2) := by decide +kernel
theorem dM_candidates_76 : decode cM_candidates 76 = .ok (.aload_n 0, 1) := by decide +kernel
theorem dM_candidates_77 : decode cM_candidates 77 = .ok (.getfield 52, 3) := by decide +kernel
theorem dM_candidates_80 : decode cM_candidates 80 = .ok (.iload 5, 2) := by decide +kernel
theorem dM_candidates_82 : decode cM_candidates 82 = .ok (.laload, 1) := by decide +kernel
theorem dM_candidates_83 : decode cM_candidates 83 = .ok (.ldc2_w 130, 3) := by decide +kernel
theorem dM_candidates_86 : decode cM_candidates 86 = .ok (.iload_n 1, 1) := by decide +kernel
theorem dM_candidates_87 : decode cM_candidates 87 = .ok (.i2l, 1) := by decide +kernel
theorem dM_candidates_88 : decode cM_candidates 88 = .ok (.ladd, 1) := by decide +kernel
theorem dM_candidates_89 : decode cM_candidates 89 = .ok (.lxor, 1) := by decide +kernel
theorem dM_candidates_90 : decode cM_candidates 90 = .ok (.iload 4, 2) := by decide +kernel
theorem dM_candidates_92 : decode cM_candidates 92 = .ok (.iload 5, 2) := by decide +kernel
theorem dM_candidates_94 : decode cM_candidates 94 = .ok (.ishr, 1) := by decide +kernel
theorem dM_candidates_95 : decode cM_candidates 95 = .ok (.iconst 1, 1) := by decide +kernel
theorem dM_candidates_96 : decode cM_candidates 96 = .ok (.iand, 1) := by decide +kernel
theorem dM_candidates_97 : decode cM_candidates 97 = .ok (.i2l, 1) := by decide +kernel
theorem dM_candidates_98 : decode cM_candidates 98 = .ok (.lxor, 1) := by decide +kernel
theorem dM_candidates_99 : decode cM_candidates 99 = .ok (.lastore, 1) := by decide +kernel
theorem dM_candidates_100 : decode cM_candidates 100 = .ok (.aload_n 0, 1) := by decide +kernel
theorem dM_candidates_101 : decode cM_candidates 101 = .ok (.getfield 52, 3) := by decide +kernel
theorem dM_candidates_104 : decode cM_candidates 104 = .ok (.iload 5, 2) := by decide +kernel
theorem dM_candidates_106 : decode cM_candidates 106 = .ok (.laload, 1) := by decide +kernel
theorem dM_candidates_107 : decode cM_candidates 107 = .ok (.aload_n 0, 1) := by decide +kernel
theorem dM_candidates_108 : decode cM_candidates 108 = .ok (.getfield 58, 3) := by decide +kernel
theorem dM_candidates_111 : decode cM_candidates 111 = .ok (.iload 5, 2) := by decide +kernel
theorem dM_candidates_113 : decode cM_candidates 113 = .ok (.laload, 1) := by decide +kernel
theorem dM_candidates_114 : decode cM_candidates 114 = .ok (.invokestatic 125, 3) := by decide +kernel
theorem dM_candidates_117 : decode cM_candidates 117 = .ok (.lstore 6, 2) := by decide +kernel
theorem dM_candidates_119 : decode cM_candidates 119 = .ok (.aload_n 0, 1) := by decide +kernel
theorem dM_candidates_120 : decode cM_candidates 120 = .ok (.getfield 64, 3) := by decide +kernel
theorem dM_candidates_123 : decode cM_candidates 123 = .ok (.iload 5, 2) := by decide +kernel
theorem dM_candidates_125 : decode cM_candidates 125 = .ok (.lload 6, 2) := by decide +kernel
theorem dM_candidates_127 : decode cM_candidates 127 = .ok (.aload_n 0, 1) := by decide +kernel
theorem dM_candidates_128 : decode cM_candidates 128 = .ok (.getfield 55, 3) := by decide +kernel
theorem dM_candidates_131 : decode cM_candidates 131 = .ok (.iload 5, 2) := by decide +kernel
theorem dM_candidates_133 : decode cM_candidates 133 = .ok (.laload, 1) := by decide +kernel
theorem dM_candidates_134 : decode cM_candidates 134 = .ok (.aload_n 0, 1) := by decide +kernel
theorem dM_candidates_135 : decode cM_candidates 135 = .ok (.getfield 61, 3) := by decide +kernel
theorem dM_candidates_138 : decode cM_candidates 138 = .ok (.iload 5, 2) := by decide +kernel
theorem dM_candidates_140 : decode cM_candidates 140 = .ok (.laload, 1) := by decide +kernel
theorem dM_candidates_141 : decode cM_candidates 141 = .ok (.invokestatic 125, 3) := by decide +kernel
theorem dM_candidates_144 : decode cM_candidates 144 = .ok (.invokestatic 125, 3) := by decide +kernel
theorem dM_candidates_147 : decode cM_candidates 147 = .ok (.lastore, 1) := by decide +kernel
theorem dM_candidates_148 : decode cM_candidates 148 = .ok (.aload_n 0, 1) := by decide +kernel
theorem dM_candidates_149 : decode cM_candidates 149 = .ok (.getfield 67, 3) := by decide +kernel
theorem dM_candidates_152 : decode cM_candidates 152 = .ok (.iload 5, 2) := by decide +kernel
theorem dM_candidates_154 : decode cM_candidates 154 = .ok (.iconst 1, 1) := by decide +kernel
theorem dM_candidates_155 : decode cM_candidates 155 = .ok (.bastore, 1) := by decide +kernel
theorem dM_candidates_156 : decode cM_candidates 156 = .ok (.iinc 5 1, 3) := by decide +kernel
theorem dM_candidates_159 : decode cM_candidates 159 = .ok (.goto (-156), 3) := by decide +kernel
theorem dM_candidates_162 : decode cM_candidates 162 = .ok (.return_, 1) := by decide +kernel
abbrev yM_hash2 : MethodName := { cls := "BlindMintModel", name := "hash2", desc := "(JJ)J" }
abbrev cM_hash2 : ByteArray := prog_12_method_7_code
theorem dM_hash2_0 : decode cM_hash2 0 = .ok (.ldc2_w 82, 3) := by decide +kernel
theorem dM_hash2_3 : decode cM_hash2 3 = .ok (.lload_n 0, 1) := by decide +kernel
theorem dM_hash2_4 : decode cM_hash2 4 = .ok (.invokestatic 84, 3) := by decide +kernel
theorem dM_hash2_7 : decode cM_hash2 7 = .ok (.lload_n 2, 1) := by decide +kernel
theorem dM_hash2_8 : decode cM_hash2 8 = .ok (.invokestatic 84, 3) := by decide +kernel
theorem dM_hash2_11 : decode cM_hash2 11 = .ok (.invokestatic 88, 3) := by decide +kernel
theorem dM_hash2_14 : decode cM_hash2 14 = .ok (.lreturn, 1) := by decide +kernel
abbrev yM_absorb : MethodName := { cls := "BlindMintModel", name := "absorb", desc := "(JJ)J" }
abbrev cM_absorb : ByteArray := prog_12_method_5_code
theorem dM_absorb_0 : decode cM_absorb 0 = .ok (.lload_n 0, 1) := by decide +kernel
theorem dM_absorb_1 : decode cM_absorb 1 = .ok (.lload_n 2, 1) := by decide +kernel
theorem dM_absorb_2 : decode cM_absorb 2 = .ok (.lxor, 1) := by decide +kernel
theorem dM_absorb_3 : decode cM_absorb 3 = .ok (.ldc2_w 76, 3) := by decide +kernel
theorem dM_absorb_6 : decode cM_absorb 6 = .ok (.lmul, 1) := by decide +kernel
theorem dM_absorb_7 : decode cM_absorb 7 = .ok (.ldc2_w 78, 3) := by decide +kernel
theorem dM_absorb_10 : decode cM_absorb 10 = .ok (.ladd, 1) := by decide +kernel
theorem dM_absorb_11 : decode cM_absorb 11 = .ok (.lstore 4, 2) := by decide +kernel
theorem dM_absorb_13 : decode cM_absorb 13 = .ok (.lload 4, 2) := by decide +kernel
theorem dM_absorb_15 : decode cM_absorb 15 = .ok (.lload 4, 2) := by decide +kernel
theorem dM_absorb_17 : decode cM_absorb 17 = .ok (.bipush 29, 2) := by decide +kernel
theorem dM_absorb_19 : decode cM_absorb 19 = .ok (.lushr, 1) := by decide +kernel
theorem dM_absorb_20 : decode cM_absorb 20 = .ok (.lxor, 1) := by decide +kernel
theorem dM_absorb_21 : decode cM_absorb 21 = .ok (.lreturn, 1) := by decide +kernel
abbrev yM_low : MethodName := { cls := "BlindMintModel", name := "low", desc := "(J)J" }
abbrev cM_low : ByteArray := prog_12_method_6_code
theorem dM_low_0 : decode cM_low 0 = .ok (.lload_n 0, 1) := by decide +kernel
theorem dM_low_1 : decode cM_low 1 = .ok (.ldc2_w 80, 3) := by decide +kernel
theorem dM_low_4 : decode cM_low 4 = .ok (.land, 1) := by decide +kernel
theorem dM_low_5 : decode cM_low 5 = .ok (.lreturn, 1) := by decide +kernel
abbrev yM_open : MethodName := { cls := "BlindMintModel", name := "open", desc := "(I)I" }
abbrev cM_open : ByteArray := prog_12_method_19_code
theorem dM_open_0 : decode cM_open 0 = .ok (.ldc2_w 82, 3) := by decide +kernel
theorem dM_open_3 : decode cM_open 3 = .ok (.lstore_n 2, 1) := by decide +kernel
theorem dM_open_4 : decode cM_open 4 = .ok (.iconst 0, 1) := by decide +kernel
theorem dM_open_5 : decode cM_open 5 = .ok (.istore 4, 2) := by decide +kernel
theorem dM_open_7 : decode cM_open 7 = .ok (.iload 4, 2) := by decide +kernel
theorem dM_open_9 : decode cM_open 9 = .ok (.bipush 6, 2) := by decide +kernel
theorem dM_open_11 : decode cM_open 11 = .ok (.if_icmp .ge 21, 3) := by decide +kernel
theorem dM_open_14 : decode cM_open 14 = .ok (.lload_n 2, 1) := by decide +kernel
theorem dM_open_15 : decode cM_open 15 = .ok (.aload_n 0, 1) := by decide +kernel
theorem dM_open_16 : decode cM_open 16 = .ok (.getfield 64, 3) := by decide +kernel
theorem dM_open_19 : decode cM_open 19 = .ok (.iload 4, 2) := by decide +kernel
theorem dM_open_21 : decode cM_open 21 = .ok (.laload, 1) := by decide +kernel
theorem dM_open_22 : decode cM_open 22 = .ok (.invokestatic 84, 3) := by decide +kernel
theorem dM_open_25 : decode cM_open 25 = .ok (.lstore_n 2, 1) := by decide +kernel
theorem dM_open_26 : decode cM_open 26 = .ok (.iinc 4 1, 3) := by decide +kernel
theorem dM_open_29 : decode cM_open 29 = .ok (.goto (-22), 3) := by decide +kernel
theorem dM_open_32 : decode cM_open 32 = .ok (.lload_n 2, 1) := by decide +kernel
theorem dM_open_33 : decode cM_open 33 = .ok (.invokestatic 88, 3) := by decide +kernel
theorem dM_open_36 : decode cM_open 36 = .ok (.lstore_n 2, 1) := by decide +kernel
theorem dM_open_37 : decode cM_open 37 = .ok (.lload_n 2, 1) := by decide +kernel
theorem dM_open_38 : decode cM_open 38 = .ok (.ldc2_w 132, 3) := by decide +kernel
theorem dM_open_41 : decode cM_open 41 = .ok (.lrem, 1) := by decide +kernel
theorem dM_open_42 : decode cM_open 42 = .ok (.l2i, 1) := by decide +kernel
theorem dM_open_43 : decode cM_open 43 = .ok (.istore 4, 2) := by decide +kernel
theorem dM_open_45 : decode cM_open 45 = .ok (.iload 4, 2) := by decide +kernel
theorem dM_open_47 : decode cM_open 47 = .ok (.i2l, 1) := by decide +kernel
theorem dM_open_48 : decode cM_open 48 = .ok (.lconst 1, 1) := by decide +kernel
theorem dM_open_49 : decode cM_open 49 = .ok (.ladd, 1) := by decide +kernel
theorem dM_open_50 : decode cM_open 50 = .ok (.lload_n 2, 1) := by decide +kernel
theorem dM_open_51 : decode cM_open 51 = .ok (.ldc2_w 132, 3) := by decide +kernel
theorem dM_open_54 : decode cM_open 54 = .ok (.ldiv, 1) := by decide +kernel
theorem dM_open_55 : decode cM_open 55 = .ok (.ldc2_w 134, 3) := by decide +kernel
theorem dM_open_58 : decode cM_open 58 = .ok (.lrem, 1) := by decide +kernel
theorem dM_open_59 : decode cM_open 59 = .ok (.ladd, 1) := by decide +kernel
theorem dM_open_60 : decode cM_open 60 = .ok (.ldc2_w 132, 3) := by decide +kernel
theorem dM_open_63 : decode cM_open 63 = .ok (.lrem, 1) := by decide +kernel
theorem dM_open_64 : decode cM_open 64 = .ok (.l2i, 1) := by decide +kernel
theorem dM_open_65 : decode cM_open 65 = .ok (.istore 5, 2) := by decide +kernel
theorem dM_open_67 : decode cM_open 67 = .ok (.aload_n 0, 1) := by decide +kernel
theorem dM_open_68 : decode cM_open 68 = .ok (.getfield 67, 3) := by decide +kernel
theorem dM_open_71 : decode cM_open 71 = .ok (.iload 4, 2) := by decide +kernel
theorem dM_open_73 : decode cM_open 73 = .ok (.iconst 0, 1) := by decide +kernel
theorem dM_open_74 : decode cM_open 74 = .ok (.bastore, 1) := by decide +kernel
theorem dM_open_75 : decode cM_open 75 = .ok (.aload_n 0, 1) := by decide +kernel
theorem dM_open_76 : decode cM_open 76 = .ok (.getfield 67, 3) := by decide +kernel
theorem dM_open_79 : decode cM_open 79 = .ok (.iload 5, 2) := by decide +kernel
theorem dM_open_81 : decode cM_open 81 = .ok (.iconst 0, 1) := by decide +kernel
theorem dM_open_82 : decode cM_open 82 = .ok (.bastore, 1) := by decide +kernel
theorem dM_open_83 : decode cM_open 83 = .ok (.iload_n 1, 1) := by decide +kernel
theorem dM_open_84 : decode cM_open 84 = .ok (.iload 4, 2) := by decide +kernel
theorem dM_open_86 : decode cM_open 86 = .ok (.ishr, 1) := by decide +kernel
theorem dM_open_87 : decode cM_open 87 = .ok (.iconst 1, 1) := by decide +kernel
theorem dM_open_88 : decode cM_open 88 = .ok (.iand, 1) := by decide +kernel
theorem dM_open_89 : decode cM_open 89 = .ok (.iload_n 1, 1) := by decide +kernel
theorem dM_open_90 : decode cM_open 90 = .ok (.iload 5, 2) := by decide +kernel
theorem dM_open_92 : decode cM_open 92 = .ok (.ishr, 1) := by decide +kernel
theorem dM_open_93 : decode cM_open 93 = .ok (.iconst 1, 1) := by decide +kernel
theorem dM_open_94 : decode cM_open 94 = .ok (.iand, 1) := by decide +kernel
theorem dM_open_95 : decode cM_open 95 = .ok (.iadd, 1) := by decide +kernel
theorem dM_open_96 : decode cM_open 96 = .ok (.ireturn, 1) := by decide +kernel
abbrev yM_least : MethodName := { cls := "BlindMintModel", name := "least", desc := "()I" }
abbrev cM_least : ByteArray := prog_12_method_20_code
theorem dM_least_0 : decode cM_least 0 = .ok (.iconst (-1), 1) := by decide +kernel
theorem dM_least_1 : decode cM_least 1 = .ok (.istore_n 1, 1) := by decide +kernel
theorem dM_least_2 : decode cM_least 2 = .ok (.iconst 0, 1) := by decide +kernel
theorem dM_least_3 : decode cM_least 3 = .ok (.istore_n 2, 1) := by decide +kernel
theorem dM_least_4 : decode cM_least 4 = .ok (.iload_n 2, 1) := by decide +kernel
theorem dM_least_5 : decode cM_least 5 = .ok (.bipush 6, 2) := by decide +kernel
theorem dM_least_7 : decode cM_least 7 = .ok (.if_icmp .ge 40, 3) := by decide +kernel
theorem dM_least_10 : decode cM_least 10 = .ok (.aload_n 0, 1) := by decide +kernel
theorem dM_least_11 : decode cM_least 11 = .ok (.getfield 67, 3) := by decide +kernel
theorem dM_least_14 : decode cM_least 14 = .ok (.iload_n 2, 1) := by decide +kernel
theorem dM_least_15 : decode cM_least 15 = .ok (.baload, 1) := by decide +kernel
theorem dM_least_16 : decode cM_least 16 = .ok (.ifCond .eq 25, 3) := by decide +kernel
theorem dM_least_19 : decode cM_least 19 = .ok (.iload_n 1, 1) := by decide +kernel
theorem dM_least_20 : decode cM_least 20 = .ok (.ifCond .lt 19, 3) := by decide +kernel
theorem dM_least_23 : decode cM_least 23 = .ok (.aload_n 0, 1) := by decide +kernel
theorem dM_least_24 : decode cM_least 24 = .ok (.getfield 64, 3) := by decide +kernel
theorem dM_least_27 : decode cM_least 27 = .ok (.iload_n 2, 1) := by decide +kernel
theorem dM_least_28 : decode cM_least 28 = .ok (.laload, 1) := by decide +kernel
theorem dM_least_29 : decode cM_least 29 = .ok (.aload_n 0, 1) := by decide +kernel
theorem dM_least_30 : decode cM_least 30 = .ok (.getfield 64, 3) := by decide +kernel
theorem dM_least_33 : decode cM_least 33 = .ok (.iload_n 1, 1) := by decide +kernel
theorem dM_least_34 : decode cM_least 34 = .ok (.laload, 1) := by decide +kernel
theorem dM_least_35 : decode cM_least 35 = .ok (.lcmp, 1) := by decide +kernel
theorem dM_least_36 : decode cM_least 36 = .ok (.ifCond .ge 5, 3) := by decide +kernel
theorem dM_least_39 : decode cM_least 39 = .ok (.iload_n 2, 1) := by decide +kernel
theorem dM_least_40 : decode cM_least 40 = .ok (.istore_n 1, 1) := by decide +kernel
theorem dM_least_41 : decode cM_least 41 = .ok (.iinc 2 1, 3) := by decide +kernel
theorem dM_least_44 : decode cM_least 44 = .ok (.goto (-40), 3) := by decide +kernel
theorem dM_least_47 : decode cM_least 47 = .ok (.iload_n 1, 1) := by decide +kernel
theorem dM_least_48 : decode cM_least 48 = .ok (.ireturn, 1) := by decide +kernel
abbrev yM_numberOf : MethodName := { cls := "BlindMintModel", name := "numberOf", desc := "(J)J" }
abbrev cM_numberOf : ByteArray := prog_12_method_9_code
theorem dM_numberOf_0 : decode cM_numberOf 0 = .ok (.ldc2_w 82, 3) := by decide +kernel
theorem dM_numberOf_3 : decode cM_numberOf 3 = .ok (.lload_n 1, 1) := by decide +kernel
theorem dM_numberOf_4 : decode cM_numberOf 4 = .ok (.invokestatic 84, 3) := by decide +kernel
theorem dM_numberOf_7 : decode cM_numberOf 7 = .ok (.lstore_n 3, 1) := by decide +kernel
theorem dM_numberOf_8 : decode cM_numberOf 8 = .ok (.iconst 0, 1) := by decide +kernel
theorem dM_numberOf_9 : decode cM_numberOf 9 = .ok (.istore 5, 2) := by decide +kernel
theorem dM_numberOf_11 : decode cM_numberOf 11 = .ok (.iload 5, 2) := by decide +kernel
theorem dM_numberOf_13 : decode cM_numberOf 13 = .ok (.iconst 4, 1) := by decide +kernel
theorem dM_numberOf_14 : decode cM_numberOf 14 = .ok (.if_icmp .ge 21, 3) := by decide +kernel
theorem dM_numberOf_17 : decode cM_numberOf 17 = .ok (.lload_n 3, 1) := by decide +kernel
theorem dM_numberOf_18 : decode cM_numberOf 18 = .ok (.aload_n 0, 1) := by decide +kernel
theorem dM_numberOf_19 : decode cM_numberOf 19 = .ok (.getfield 70, 3) := by decide +kernel
theorem dM_numberOf_22 : decode cM_numberOf 22 = .ok (.iload 5, 2) := by decide +kernel
theorem dM_numberOf_24 : decode cM_numberOf 24 = .ok (.laload, 1) := by decide +kernel
theorem dM_numberOf_25 : decode cM_numberOf 25 = .ok (.invokestatic 84, 3) := by decide +kernel
theorem dM_numberOf_28 : decode cM_numberOf 28 = .ok (.lstore_n 3, 1) := by decide +kernel
theorem dM_numberOf_29 : decode cM_numberOf 29 = .ok (.iinc 5 1, 3) := by decide +kernel
theorem dM_numberOf_32 : decode cM_numberOf 32 = .ok (.goto (-21), 3) := by decide +kernel
theorem dM_numberOf_35 : decode cM_numberOf 35 = .ok (.lload_n 3, 1) := by decide +kernel
theorem dM_numberOf_36 : decode cM_numberOf 36 = .ok (.invokestatic 88, 3) := by decide +kernel
theorem dM_numberOf_39 : decode cM_numberOf 39 = .ok (.lreturn, 1) := by decide +kernel
abbrev yM_signed : MethodName := { cls := "BlindMintModel", name := "signed", desc := "(JI)J" }
abbrev cM_signed : ByteArray := prog_12_method_15_code
theorem dM_signed_0 : decode cM_signed 0 = .ok (.iload_n 2, 1) := by decide +kernel
theorem dM_signed_1 : decode cM_signed 1 = .ok (.iconst 0, 1) := by decide +kernel
theorem dM_signed_2 : decode cM_signed 2 = .ok (.invokestatic 104, 3) := by decide +kernel
theorem dM_signed_5 : decode cM_signed 5 = .ok (.lstore_n 3, 1) := by decide +kernel
theorem dM_signed_6 : decode cM_signed 6 = .ok (.iload_n 2, 1) := by decide +kernel
theorem dM_signed_7 : decode cM_signed 7 = .ok (.iconst 1, 1) := by decide +kernel
theorem dM_signed_8 : decode cM_signed 8 = .ok (.invokestatic 104, 3) := by decide +kernel
theorem dM_signed_11 : decode cM_signed 11 = .ok (.lstore 5, 2) := by decide +kernel
theorem dM_signed_13 : decode cM_signed 13 = .ok (.lload_n 0, 1) := by decide +kernel
theorem dM_signed_14 : decode cM_signed 14 = .ok (.lload_n 3, 1) := by decide +kernel
theorem dM_signed_15 : decode cM_signed 15 = .ok (.invokestatic 116, 3) := by decide +kernel
theorem dM_signed_18 : decode cM_signed 18 = .ok (.lload_n 3, 1) := by decide +kernel
theorem dM_signed_19 : decode cM_signed 19 = .ok (.invokestatic 110, 3) := by decide +kernel
theorem dM_signed_22 : decode cM_signed 22 = .ok (.lload_n 0, 1) := by decide +kernel
theorem dM_signed_23 : decode cM_signed 23 = .ok (.lload 5, 2) := by decide +kernel
theorem dM_signed_25 : decode cM_signed 25 = .ok (.invokestatic 116, 3) := by decide +kernel
theorem dM_signed_28 : decode cM_signed 28 = .ok (.lload 5, 2) := by decide +kernel
theorem dM_signed_30 : decode cM_signed 30 = .ok (.invokestatic 110, 3) := by decide +kernel
theorem dM_signed_33 : decode cM_signed 33 = .ok (.iload_n 2, 1) := by decide +kernel
theorem dM_signed_34 : decode cM_signed 34 = .ok (.invokestatic 119, 3) := by decide +kernel
theorem dM_signed_37 : decode cM_signed 37 = .ok (.lreturn, 1) := by decide +kernel
abbrev yM_factor : MethodName := { cls := "BlindMintModel", name := "factor", desc := "(IZ)J" }
abbrev cM_factor : ByteArray := prog_12_method_10_code
theorem dM_factor_0 : decode cM_factor 0 = .ok (.iload_n 0, 1) := by decide +kernel
theorem dM_factor_1 : decode cM_factor 1 = .ok (.ifCond .ne 17, 3) := by decide +kernel
theorem dM_factor_4 : decode cM_factor 4 = .ok (.iload_n 1, 1) := by decide +kernel
theorem dM_factor_5 : decode cM_factor 5 = .ok (.ifCond .eq 9, 3) := by decide +kernel
theorem dM_factor_8 : decode cM_factor 8 = .ok (.ldc2_w 92, 3) := by decide +kernel
theorem dM_factor_11 : decode cM_factor 11 = .ok (.goto 6, 3) := by decide +kernel
theorem dM_factor_14 : decode cM_factor 14 = .ok (.ldc2_w 94, 3) := by decide +kernel
theorem dM_factor_17 : decode cM_factor 17 = .ok (.lreturn, 1) := by decide +kernel
theorem dM_factor_18 : decode cM_factor 18 = .ok (.iload_n 0, 1) := by decide +kernel
theorem dM_factor_19 : decode cM_factor 19 = .ok (.iconst 1, 1) := by decide +kernel
theorem dM_factor_20 : decode cM_factor 20 = .ok (.if_icmp .ne 17, 3) := by decide +kernel
theorem dM_factor_23 : decode cM_factor 23 = .ok (.iload_n 1, 1) := by decide +kernel
theorem dM_factor_24 : decode cM_factor 24 = .ok (.ifCond .eq 9, 3) := by decide +kernel
theorem dM_factor_27 : decode cM_factor 27 = .ok (.ldc2_w 96, 3) := by decide +kernel
theorem dM_factor_30 : decode cM_factor 30 = .ok (.goto 6, 3) := by decide +kernel
theorem dM_factor_33 : decode cM_factor 33 = .ok (.ldc2_w 98, 3) := by decide +kernel
theorem dM_factor_36 : decode cM_factor 36 = .ok (.lreturn, 1) := by decide +kernel
theorem dM_factor_37 : decode cM_factor 37 = .ok (.iload_n 1, 1) := by decide +kernel
theorem dM_factor_38 : decode cM_factor 38 = .ok (.ifCond .eq 9, 3) := by decide +kernel
theorem dM_factor_41 : decode cM_factor 41 = .ok (.ldc2_w 100, 3) := by decide +kernel
theorem dM_factor_44 : decode cM_factor 44 = .ok (.goto 6, 3) := by decide +kernel
theorem dM_factor_47 : decode cM_factor 47 = .ok (.ldc2_w 102, 3) := by decide +kernel
theorem dM_factor_50 : decode cM_factor 50 = .ok (.lreturn, 1) := by decide +kernel
abbrev yM_undo : MethodName := { cls := "BlindMintModel", name := "undo", desc := "(J)J" }
abbrev cM_undo : ByteArray := prog_12_method_14_code
theorem dM_undo_0 : decode cM_undo 0 = .ok (.lconst 0, 1) := by decide +kernel
theorem dM_undo_1 : decode cM_undo 1 = .ok (.lstore_n 2, 1) := by decide +kernel
theorem dM_undo_2 : decode cM_undo 2 = .ok (.lconst 1, 1) := by decide +kernel
theorem dM_undo_3 : decode cM_undo 3 = .ok (.lload_n 2, 1) := by decide +kernel
theorem dM_undo_4 : decode cM_undo 4 = .ok (.lload_n 0, 1) := by decide +kernel
theorem dM_undo_5 : decode cM_undo 5 = .ok (.lconst 1, 1) := by decide +kernel
theorem dM_undo_6 : decode cM_undo 6 = .ok (.lsub, 1) := by decide +kernel
theorem dM_undo_7 : decode cM_undo 7 = .ok (.lmul, 1) := by decide +kernel
theorem dM_undo_8 : decode cM_undo 8 = .ok (.ladd, 1) := by decide +kernel
theorem dM_undo_9 : decode cM_undo 9 = .ok (.ldc2_w 114, 3) := by decide +kernel
theorem dM_undo_12 : decode cM_undo 12 = .ok (.lrem, 1) := by decide +kernel
theorem dM_undo_13 : decode cM_undo 13 = .ok (.lconst 0, 1) := by decide +kernel
theorem dM_undo_14 : decode cM_undo 14 = .ok (.lcmp, 1) := by decide +kernel
theorem dM_undo_15 : decode cM_undo 15 = .ok (.ifCond .eq 10, 3) := by decide +kernel
theorem dM_undo_18 : decode cM_undo 18 = .ok (.lload_n 2, 1) := by decide +kernel
theorem dM_undo_19 : decode cM_undo 19 = .ok (.lconst 1, 1) := by decide +kernel
theorem dM_undo_20 : decode cM_undo 20 = .ok (.ladd, 1) := by decide +kernel
theorem dM_undo_21 : decode cM_undo 21 = .ok (.lstore_n 2, 1) := by decide +kernel
theorem dM_undo_22 : decode cM_undo 22 = .ok (.goto (-20), 3) := by decide +kernel
theorem dM_undo_25 : decode cM_undo 25 = .ok (.lconst 1, 1) := by decide +kernel
theorem dM_undo_26 : decode cM_undo 26 = .ok (.lload_n 2, 1) := by decide +kernel
theorem dM_undo_27 : decode cM_undo 27 = .ok (.lload_n 0, 1) := by decide +kernel
theorem dM_undo_28 : decode cM_undo 28 = .ok (.lconst 1, 1) := by decide +kernel
theorem dM_undo_29 : decode cM_undo 29 = .ok (.lsub, 1) := by decide +kernel
theorem dM_undo_30 : decode cM_undo 30 = .ok (.lmul, 1) := by decide +kernel
theorem dM_undo_31 : decode cM_undo 31 = .ok (.ladd, 1) := by decide +kernel
theorem dM_undo_32 : decode cM_undo 32 = .ok (.ldc2_w 114, 3) := by decide +kernel
theorem dM_undo_35 : decode cM_undo 35 = .ok (.ldiv, 1) := by decide +kernel
theorem dM_undo_36 : decode cM_undo 36 = .ok (.lreturn, 1) := by decide +kernel
abbrev yM_power : MethodName := { cls := "BlindMintModel", name := "power", desc := "(JJJ)J" }
abbrev cM_power : ByteArray := prog_12_method_12_code
theorem dM_power_0 : decode cM_power 0 = .ok (.lconst 1, 1) := by decide +kernel
theorem dM_power_1 : decode cM_power 1 = .ok (.lstore 6, 2) := by decide +kernel
theorem dM_power_3 : decode cM_power 3 = .ok (.lload_n 0, 1) := by decide +kernel
theorem dM_power_4 : decode cM_power 4 = .ok (.lload 4, 2) := by decide +kernel
theorem dM_power_6 : decode cM_power 6 = .ok (.lrem, 1) := by decide +kernel
theorem dM_power_7 : decode cM_power 7 = .ok (.lstore 8, 2) := by decide +kernel
theorem dM_power_9 : decode cM_power 9 = .ok (.lload_n 2, 1) := by decide +kernel
theorem dM_power_10 : decode cM_power 10 = .ok (.lstore 10, 2) := by decide +kernel
theorem dM_power_12 : decode cM_power 12 = .ok (.lload 10, 2) := by decide +kernel
theorem dM_power_14 : decode cM_power 14 = .ok (.lconst 0, 1) := by decide +kernel
theorem dM_power_15 : decode cM_power 15 = .ok (.lcmp, 1) := by decide +kernel
theorem dM_power_16 : decode cM_power 16 = .ok (.ifCond .le 46, 3) := by decide +kernel
theorem dM_power_19 : decode cM_power 19 = .ok (.lload 10, 2) := by decide +kernel
theorem dM_power_21 : decode cM_power 21 = .ok (.lconst 1, 1) := by decide +kernel
theorem dM_power_22 : decode cM_power 22 = .ok (.land, 1) := by decide +kernel
theorem dM_power_23 : decode cM_power 23 = .ok (.lconst 1, 1) := by decide +kernel
theorem dM_power_24 : decode cM_power 24 = .ok (.lcmp, 1) := by decide +kernel
theorem dM_power_25 : decode cM_power 25 = .ok (.ifCond .ne 14, 3) := by decide +kernel
theorem dM_power_28 : decode cM_power 28 = .ok (.lload 6, 2) := by decide +kernel
theorem dM_power_30 : decode cM_power 30 = .ok (.lload 8, 2) := by decide +kernel
theorem dM_power_32 : decode cM_power 32 = .ok (.lmul, 1) := by decide +kernel
theorem dM_power_33 : decode cM_power 33 = .ok (.lload 4, 2) := by decide +kernel
theorem dM_power_35 : decode cM_power 35 = .ok (.lrem, 1) := by decide +kernel
theorem dM_power_36 : decode cM_power 36 = .ok (.goto 5, 3) := by decide +kernel
theorem dM_power_39 : decode cM_power 39 = .ok (.lload 6, 2) := by decide +kernel
theorem dM_power_41 : decode cM_power 41 = .ok (.lstore 6, 2) := by decide +kernel
theorem dM_power_43 : decode cM_power 43 = .ok (.lload 8, 2) := by decide +kernel
theorem dM_power_45 : decode cM_power 45 = .ok (.lload 8, 2) := by decide +kernel
theorem dM_power_47 : decode cM_power 47 = .ok (.lmul, 1) := by decide +kernel
theorem dM_power_48 : decode cM_power 48 = .ok (.lload 4, 2) := by decide +kernel
theorem dM_power_50 : decode cM_power 50 = .ok (.lrem, 1) := by decide +kernel
theorem dM_power_51 : decode cM_power 51 = .ok (.lstore 8, 2) := by decide +kernel
theorem dM_power_53 : decode cM_power 53 = .ok (.lload 10, 2) := by decide +kernel
theorem dM_power_55 : decode cM_power 55 = .ok (.iconst 1, 1) := by decide +kernel
theorem dM_power_56 : decode cM_power 56 = .ok (.lshr, 1) := by decide +kernel
theorem dM_power_57 : decode cM_power 57 = .ok (.lstore 10, 2) := by decide +kernel
theorem dM_power_59 : decode cM_power 59 = .ok (.goto (-47), 3) := by decide +kernel
theorem dM_power_62 : decode cM_power 62 = .ok (.lload 6, 2) := by decide +kernel
theorem dM_power_64 : decode cM_power 64 = .ok (.lreturn, 1) := by decide +kernel
abbrev yM_join : MethodName := { cls := "BlindMintModel", name := "join", desc := "(JJI)J" }
abbrev cM_join : ByteArray := prog_12_method_13_code
theorem dM_join_0 : decode cM_join 0 = .ok (.iload 4, 2) := by decide +kernel
theorem dM_join_2 : decode cM_join 2 = .ok (.iconst 0, 1) := by decide +kernel
theorem dM_join_3 : decode cM_join 3 = .ok (.invokestatic 104, 3) := by decide +kernel
theorem dM_join_6 : decode cM_join 6 = .ok (.lstore 5, 2) := by decide +kernel
theorem dM_join_8 : decode cM_join 8 = .ok (.iload 4, 2) := by decide +kernel
theorem dM_join_10 : decode cM_join 10 = .ok (.iconst 1, 1) := by decide +kernel
theorem dM_join_11 : decode cM_join 11 = .ok (.invokestatic 104, 3) := by decide +kernel
theorem dM_join_14 : decode cM_join 14 = .ok (.lstore 7, 2) := by decide +kernel
theorem dM_join_16 : decode cM_join 16 = .ok (.lload 5, 2) := by decide +kernel
theorem dM_join_18 : decode cM_join 18 = .ok (.lload 7, 2) := by decide +kernel
theorem dM_join_20 : decode cM_join 20 = .ok (.ldc2_w 108, 3) := by decide +kernel
theorem dM_join_23 : decode cM_join 23 = .ok (.lsub, 1) := by decide +kernel
theorem dM_join_24 : decode cM_join 24 = .ok (.lload 7, 2) := by decide +kernel
theorem dM_join_26 : decode cM_join 26 = .ok (.invokestatic 110, 3) := by decide +kernel
theorem dM_join_29 : decode cM_join 29 = .ok (.lstore 9, 2) := by decide +kernel
theorem dM_join_31 : decode cM_join 31 = .ok (.lload_n 2, 1) := by decide +kernel
theorem dM_join_32 : decode cM_join 32 = .ok (.lload_n 0, 1) := by decide +kernel
theorem dM_join_33 : decode cM_join 33 = .ok (.lsub, 1) := by decide +kernel
theorem dM_join_34 : decode cM_join 34 = .ok (.lload 7, 2) := by decide +kernel
theorem dM_join_36 : decode cM_join 36 = .ok (.lrem, 1) := by decide +kernel
theorem dM_join_37 : decode cM_join 37 = .ok (.lload 7, 2) := by decide +kernel
theorem dM_join_39 : decode cM_join 39 = .ok (.ladd, 1) := by decide +kernel
theorem dM_join_40 : decode cM_join 40 = .ok (.lload 7, 2) := by decide +kernel
theorem dM_join_42 : decode cM_join 42 = .ok (.lrem, 1) := by decide +kernel
theorem dM_join_43 : decode cM_join 43 = .ok (.lload 9, 2) := by decide +kernel
theorem dM_join_45 : decode cM_join 45 = .ok (.lmul, 1) := by decide +kernel
theorem dM_join_46 : decode cM_join 46 = .ok (.lload 7, 2) := by decide +kernel
theorem dM_join_48 : decode cM_join 48 = .ok (.lrem, 1) := by decide +kernel
theorem dM_join_49 : decode cM_join 49 = .ok (.lstore 11, 2) := by decide +kernel
theorem dM_join_51 : decode cM_join 51 = .ok (.lload_n 0, 1) := by decide +kernel
theorem dM_join_52 : decode cM_join 52 = .ok (.lload 5, 2) := by decide +kernel
theorem dM_join_54 : decode cM_join 54 = .ok (.lload 11, 2) := by decide +kernel
theorem dM_join_56 : decode cM_join 56 = .ok (.lmul, 1) := by decide +kernel
theorem dM_join_57 : decode cM_join 57 = .ok (.ladd, 1) := by decide +kernel
theorem dM_join_58 : decode cM_join 58 = .ok (.lreturn, 1) := by decide +kernel
abbrev yM_blind : MethodName := { cls := "BlindMintModel", name := "blind", desc := "(JJI)J" }
abbrev cM_blind : ByteArray := prog_12_method_17_code
theorem dM_blind_0 : decode cM_blind 0 = .ok (.iload 4, 2) := by decide +kernel
theorem dM_blind_2 : decode cM_blind 2 = .ok (.iconst 0, 1) := by decide +kernel
theorem dM_blind_3 : decode cM_blind 3 = .ok (.invokestatic 104, 3) := by decide +kernel
theorem dM_blind_6 : decode cM_blind 6 = .ok (.lstore 5, 2) := by decide +kernel
theorem dM_blind_8 : decode cM_blind 8 = .ok (.iload 4, 2) := by decide +kernel
theorem dM_blind_10 : decode cM_blind 10 = .ok (.iconst 1, 1) := by decide +kernel
theorem dM_blind_11 : decode cM_blind 11 = .ok (.invokestatic 104, 3) := by decide +kernel
theorem dM_blind_14 : decode cM_blind 14 = .ok (.lstore 7, 2) := by decide +kernel
theorem dM_blind_16 : decode cM_blind 16 = .ok (.lload_n 2, 1) := by decide +kernel
theorem dM_blind_17 : decode cM_blind 17 = .ok (.ldc2_w 123, 3) := by decide +kernel
theorem dM_blind_20 : decode cM_blind 20 = .ok (.invokestatic 125, 3) := by decide +kernel
theorem dM_blind_23 : decode cM_blind 23 = .ok (.lstore 9, 2) := by decide +kernel
theorem dM_blind_25 : decode cM_blind 25 = .ok (.lload 9, 2) := by decide +kernel
theorem dM_blind_27 : decode cM_blind 27 = .ok (.lload 5, 2) := by decide +kernel
theorem dM_blind_29 : decode cM_blind 29 = .ok (.lrem, 1) := by decide +kernel
theorem dM_blind_30 : decode cM_blind 30 = .ok (.lconst 0, 1) := by decide +kernel
theorem dM_blind_31 : decode cM_blind 31 = .ok (.lcmp, 1) := by decide +kernel
theorem dM_blind_32 : decode cM_blind 32 = .ok (.ifCond .eq 13, 3) := by decide +kernel
theorem dM_blind_35 : decode cM_blind 35 = .ok (.lload 9, 2) := by decide +kernel
theorem dM_blind_37 : decode cM_blind 37 = .ok (.lload 7, 2) := by decide +kernel
theorem dM_blind_39 : decode cM_blind 39 = .ok (.lrem, 1) := by decide +kernel
theorem dM_blind_40 : decode cM_blind 40 = .ok (.lconst 0, 1) := by decide +kernel
theorem dM_blind_41 : decode cM_blind 41 = .ok (.lcmp, 1) := by decide +kernel
theorem dM_blind_42 : decode cM_blind 42 = .ok (.ifCond .ne 12, 3) := by decide +kernel
theorem dM_blind_45 : decode cM_blind 45 = .ok (.lload 9, 2) := by decide +kernel
theorem dM_blind_47 : decode cM_blind 47 = .ok (.lconst 1, 1) := by decide +kernel
theorem dM_blind_48 : decode cM_blind 48 = .ok (.ladd, 1) := by decide +kernel
theorem dM_blind_49 : decode cM_blind 49 = .ok (.lstore 9, 2) := by decide +kernel
theorem dM_blind_51 : decode cM_blind 51 = .ok (.goto (-26), 3) := by decide +kernel
theorem dM_blind_54 : decode cM_blind 54 = .ok (.lload_n 0, 1) := by decide +kernel
theorem dM_blind_55 : decode cM_blind 55 = .ok (.lload 5, 2) := by decide +kernel
theorem dM_blind_57 : decode cM_blind 57 = .ok (.lrem, 1) := by decide +kernel
theorem dM_blind_58 : decode cM_blind 58 = .ok (.lload 9, 2) := by decide +kernel
theorem dM_blind_60 : decode cM_blind 60 = .ok (.ldc2_w 114, 3) := by decide +kernel
theorem dM_blind_63 : decode cM_blind 63 = .ok (.lload 5, 2) := by decide +kernel
theorem dM_blind_65 : decode cM_blind 65 = .ok (.invokestatic 110, 3) := by decide +kernel
theorem dM_blind_68 : decode cM_blind 68 = .ok (.lmul, 1) := by decide +kernel
theorem dM_blind_69 : decode cM_blind 69 = .ok (.lload 5, 2) := by decide +kernel
theorem dM_blind_71 : decode cM_blind 71 = .ok (.lrem, 1) := by decide +kernel
theorem dM_blind_72 : decode cM_blind 72 = .ok (.lload_n 0, 1) := by decide +kernel
theorem dM_blind_73 : decode cM_blind 73 = .ok (.lload 7, 2) := by decide +kernel
theorem dM_blind_75 : decode cM_blind 75 = .ok (.lrem, 1) := by decide +kernel
theorem dM_blind_76 : decode cM_blind 76 = .ok (.lload 9, 2) := by decide +kernel
theorem dM_blind_78 : decode cM_blind 78 = .ok (.ldc2_w 114, 3) := by decide +kernel
theorem dM_blind_81 : decode cM_blind 81 = .ok (.lload 7, 2) := by decide +kernel
theorem dM_blind_83 : decode cM_blind 83 = .ok (.invokestatic 110, 3) := by decide +kernel
theorem dM_blind_86 : decode cM_blind 86 = .ok (.lmul, 1) := by decide +kernel
theorem dM_blind_87 : decode cM_blind 87 = .ok (.lload 7, 2) := by decide +kernel
theorem dM_blind_89 : decode cM_blind 89 = .ok (.lrem, 1) := by decide +kernel
theorem dM_blind_90 : decode cM_blind 90 = .ok (.iload 4, 2) := by decide +kernel
theorem dM_blind_92 : decode cM_blind 92 = .ok (.invokestatic 119, 3) := by decide +kernel
theorem dM_blind_95 : decode cM_blind 95 = .ok (.lreturn, 1) := by decide +kernel
abbrev yM_choose : MethodName := { cls := "BlindMintModel", name := "choose", desc := "(II)I" }
abbrev cM_choose : ByteArray := prog_12_method_22_code
theorem dM_choose_0 : decode cM_choose 0 = .ok (.aload_n 0, 1) := by decide +kernel
theorem dM_choose_1 : decode cM_choose 1 = .ok (.iconst 0, 1) := by decide +kernel
theorem dM_choose_2 : decode cM_choose 2 = .ok (.putfield 73, 3) := by decide +kernel
theorem dM_choose_5 : decode cM_choose 5 = .ok (.iload_n 1, 1) := by decide +kernel
theorem dM_choose_6 : decode cM_choose 6 = .ok (.iconst 4, 1) := by decide +kernel
theorem dM_choose_7 : decode cM_choose 7 = .ok (.invokestatic 136, 3) := by decide +kernel
theorem dM_choose_10 : decode cM_choose 10 = .ok (.ifCond .eq 8, 3) := by decide +kernel
theorem dM_choose_13 : decode cM_choose 13 = .ok (.iload_n 2, 1) := by decide +kernel
theorem dM_choose_14 : decode cM_choose 14 = .ok (.iconst 1, 1) := by decide +kernel
theorem dM_choose_15 : decode cM_choose 15 = .ok (.if_icmp .ge 9, 3) := by decide +kernel
theorem dM_choose_18 : decode cM_choose 18 = .ok (.aload_n 0, 1) := by decide +kernel
theorem dM_choose_19 : decode cM_choose 19 = .ok (.iconst 1, 1) := by decide +kernel
theorem dM_choose_20 : decode cM_choose 20 = .ok (.invokevirtual 140, 3) := by decide +kernel
theorem dM_choose_23 : decode cM_choose 23 = .ok (.ireturn, 1) := by decide +kernel
theorem dM_choose_24 : decode cM_choose 24 = .ok (.iload_n 2, 1) := by decide +kernel
theorem dM_choose_25 : decode cM_choose 25 = .ok (.istore_n 3, 1) := by decide +kernel
theorem dM_choose_26 : decode cM_choose 26 = .ok (.iconst 0, 1) := by decide +kernel
theorem dM_choose_27 : decode cM_choose 27 = .ok (.istore 4, 2) := by decide +kernel
theorem dM_choose_29 : decode cM_choose 29 = .ok (.iconst 2, 1) := by decide +kernel
theorem dM_choose_30 : decode cM_choose 30 = .ok (.istore 5, 2) := by decide +kernel
theorem dM_choose_32 : decode cM_choose 32 = .ok (.iload 5, 2) := by decide +kernel
theorem dM_choose_34 : decode cM_choose 34 = .ok (.ifCond .lt 111, 3) := by decide +kernel
theorem dM_choose_37 : decode cM_choose 37 = .ok (.iconst 0, 1) := by decide +kernel
theorem dM_choose_38 : decode cM_choose 38 = .ok (.istore 6, 2) := by decide +kernel
theorem dM_choose_40 : decode cM_choose 40 = .ok (.iload 6, 2) := by decide +kernel
theorem dM_choose_42 : decode cM_choose 42 = .ok (.aload_n 0, 1) := by decide +kernel
theorem dM_choose_43 : decode cM_choose 43 = .ok (.getfield 26, 3) := by decide +kernel
theorem dM_choose_46 : decode cM_choose 46 = .ok (.iload_n 1, 1) := by decide +kernel
theorem dM_choose_47 : decode cM_choose 47 = .ok (.iaload, 1) := by decide +kernel
theorem dM_choose_48 : decode cM_choose 48 = .ok (.if_icmp .ge 91, 3) := by decide +kernel
theorem dM_choose_51 : decode cM_choose 51 = .ok (.bipush 8, 2) := by decide +kernel
theorem dM_choose_53 : decode cM_choose 53 = .ok (.iload_n 1, 1) := by decide +kernel
theorem dM_choose_54 : decode cM_choose 54 = .ok (.imul, 1) := by decide +kernel
theorem dM_choose_55 : decode cM_choose 55 = .ok (.iload 6, 2) := by decide +kernel
theorem dM_choose_57 : decode cM_choose 57 = .ok (.iadd, 1) := by decide +kernel
theorem dM_choose_58 : decode cM_choose 58 = .ok (.istore 7, 2) := by decide +kernel
theorem dM_choose_60 : decode cM_choose 60 = .ok (.aload_n 0, 1) := by decide +kernel
theorem dM_choose_61 : decode cM_choose 61 = .ok (.getfield 29, 3) := by decide +kernel
theorem dM_choose_64 : decode cM_choose 64 = .ok (.iload 7, 2) := by decide +kernel
theorem dM_choose_66 : decode cM_choose 66 = .ok (.iaload, 1) := by decide +kernel
theorem dM_choose_67 : decode cM_choose 67 = .ok (.iload 5, 2) := by decide +kernel
theorem dM_choose_69 : decode cM_choose 69 = .ok (.if_icmp .ne 26, 3) := by decide +kernel
theorem dM_choose_72 : decode cM_choose 72 = .ok (.aload_n 0, 1) := by decide +kernel
theorem dM_choose_73 : decode cM_choose 73 = .ok (.getfield 39, 3) := by decide +kernel
theorem dM_choose_76 : decode cM_choose 76 = .ok (.iload 7, 2) := by decide +kernel
theorem dM_choose_78 : decode cM_choose 78 = .ok (.baload, 1) := by decide +kernel
theorem dM_choose_79 : decode cM_choose 79 = .ok (.ifCond .ne 16, 3) := by decide +kernel
theorem dM_choose_82 : decode cM_choose 82 = .ok (.iload 5, 2) := by decide +kernel
theorem dM_choose_84 : decode cM_choose 84 = .ok (.invokestatic 144, 3) := by decide +kernel
theorem dM_choose_87 : decode cM_choose 87 = .ok (.iload_n 3, 1) := by decide +kernel
theorem dM_choose_88 : decode cM_choose 88 = .ok (.if_icmp .gt 7, 3) := by decide +kernel
theorem dM_choose_91 : decode cM_choose 91 = .ok (.iconst 1, 1) := by decide +kernel
theorem dM_choose_92 : decode cM_choose 92 = .ok (.goto 4, 3) := by decide +kernel
theorem dM_choose_95 : decode cM_choose 95 = .ok (.iconst 0, 1) := by decide +kernel
theorem dM_choose_96 : decode cM_choose 96 = .ok (.istore 8, 2) := by decide +kernel
theorem dM_choose_98 : decode cM_choose 98 = .ok (.iload 4, 2) := by decide +kernel
theorem dM_choose_100 : decode cM_choose 100 = .ok (.iload 8, 2) := by decide +kernel
theorem dM_choose_102 : decode cM_choose 102 = .ok (.ifCond .eq 10, 3) := by decide +kernel
theorem dM_choose_105 : decode cM_choose 105 = .ok (.iconst 1, 1) := by decide +kernel
theorem dM_choose_106 : decode cM_choose 106 = .ok (.iload 6, 2) := by decide +kernel
theorem dM_choose_108 : decode cM_choose 108 = .ok (.ishl, 1) := by decide +kernel
theorem dM_choose_109 : decode cM_choose 109 = .ok (.goto 4, 3) := by decide +kernel
theorem dM_choose_112 : decode cM_choose 112 = .ok (.iconst 0, 1) := by decide +kernel
theorem dM_choose_113 : decode cM_choose 113 = .ok (.ior, 1) := by decide +kernel
theorem dM_choose_114 : decode cM_choose 114 = .ok (.istore 4, 2) := by decide +kernel
theorem dM_choose_116 : decode cM_choose 116 = .ok (.iload_n 3, 1) := by decide +kernel
theorem dM_choose_117 : decode cM_choose 117 = .ok (.iload 8, 2) := by decide +kernel
theorem dM_choose_119 : decode cM_choose 119 = .ok (.ifCond .eq 11, 3) := by decide +kernel
theorem dM_choose_122 : decode cM_choose 122 = .ok (.iload 5, 2) := by decide +kernel
theorem dM_choose_124 : decode cM_choose 124 = .ok (.invokestatic 144, 3) := by decide +kernel
theorem dM_choose_127 : decode cM_choose 127 = .ok (.goto 4, 3) := by decide +kernel
theorem dM_choose_130 : decode cM_choose 130 = .ok (.iconst 0, 1) := by decide +kernel
theorem dM_choose_131 : decode cM_choose 131 = .ok (.isub, 1) := by decide +kernel
theorem dM_choose_132 : decode cM_choose 132 = .ok (.istore_n 3, 1) := by decide +kernel
theorem dM_choose_133 : decode cM_choose 133 = .ok (.iinc 6 1, 3) := by decide +kernel
theorem dM_choose_136 : decode cM_choose 136 = .ok (.goto (-96), 3) := by decide +kernel
theorem dM_choose_139 : decode cM_choose 139 = .ok (.iinc 5 (-1), 3) := by decide +kernel
theorem dM_choose_142 : decode cM_choose 142 = .ok (.goto (-110), 3) := by decide +kernel
theorem dM_choose_145 : decode cM_choose 145 = .ok (.iload_n 3, 1) := by decide +kernel
theorem dM_choose_146 : decode cM_choose 146 = .ok (.ifCond .le 11, 3) := by decide +kernel
theorem dM_choose_149 : decode cM_choose 149 = .ok (.aload_n 0, 1) := by decide +kernel
theorem dM_choose_150 : decode cM_choose 150 = .ok (.iconst 2, 1) := by decide +kernel
theorem dM_choose_151 : decode cM_choose 151 = .ok (.invokevirtual 140, 3) := by decide +kernel
theorem dM_choose_154 : decode cM_choose 154 = .ok (.goto 5, 3) := by decide +kernel
theorem dM_choose_157 : decode cM_choose 157 = .ok (.iload 4, 2) := by decide +kernel
theorem dM_choose_159 : decode cM_choose 159 = .ok (.ireturn, 1) := by decide +kernel
abbrev yM_spend : MethodName := { cls := "BlindMintModel", name := "spend", desc := "(IIII)I" }
abbrev cM_spend : ByteArray := prog_12_method_24_code
theorem dM_spend_0 : decode cM_spend 0 = .ok (.aload_n 0, 1) := by decide +kernel
theorem dM_spend_1 : decode cM_spend 1 = .ok (.iconst 0, 1) := by decide +kernel
theorem dM_spend_2 : decode cM_spend 2 = .ok (.putfield 73, 3) := by decide +kernel
theorem dM_spend_5 : decode cM_spend 5 = .ok (.aload_n 0, 1) := by decide +kernel
theorem dM_spend_6 : decode cM_spend 6 = .ok (.iload_n 1, 1) := by decide +kernel
theorem dM_spend_7 : decode cM_spend 7 = .ok (.iload_n 2, 1) := by decide +kernel
theorem dM_spend_8 : decode cM_spend 8 = .ok (.invokevirtual 168, 3) := by decide +kernel
theorem dM_spend_11 : decode cM_spend 11 = .ok (.ifCond .eq 9, 3) := by decide +kernel
theorem dM_spend_14 : decode cM_spend 14 = .ok (.aload_n 0, 1) := by decide +kernel
theorem dM_spend_15 : decode cM_spend 15 = .ok (.iconst 1, 1) := by decide +kernel
theorem dM_spend_16 : decode cM_spend 16 = .ok (.invokevirtual 140, 3) := by decide +kernel
theorem dM_spend_19 : decode cM_spend 19 = .ok (.ireturn, 1) := by decide +kernel
theorem dM_spend_20 : decode cM_spend 20 = .ok (.aload_n 0, 1) := by decide +kernel
theorem dM_spend_21 : decode cM_spend 21 = .ok (.getfield 171, 3) := by decide +kernel
theorem dM_spend_24 : decode cM_spend 24 = .ok (.bipush 20, 2) := by decide +kernel
theorem dM_spend_26 : decode cM_spend 26 = .ok (.if_icmp .ne 9, 3) := by decide +kernel
theorem dM_spend_29 : decode cM_spend 29 = .ok (.aload_n 0, 1) := by decide +kernel
theorem dM_spend_30 : decode cM_spend 30 = .ok (.iconst 2, 1) := by decide +kernel
theorem dM_spend_31 : decode cM_spend 31 = .ok (.invokevirtual 140, 3) := by decide +kernel
theorem dM_spend_34 : decode cM_spend 34 = .ok (.ireturn, 1) := by decide +kernel
theorem dM_spend_35 : decode cM_spend 35 = .ok (.bipush 8, 2) := by decide +kernel
theorem dM_spend_37 : decode cM_spend 37 = .ok (.iload_n 1, 1) := by decide +kernel
theorem dM_spend_38 : decode cM_spend 38 = .ok (.imul, 1) := by decide +kernel
theorem dM_spend_39 : decode cM_spend 39 = .ok (.iload_n 2, 1) := by decide +kernel
theorem dM_spend_40 : decode cM_spend 40 = .ok (.iadd, 1) := by decide +kernel
theorem dM_spend_41 : decode cM_spend 41 = .ok (.istore 5, 2) := by decide +kernel
theorem dM_spend_43 : decode cM_spend 43 = .ok (.bipush 16, 2) := by decide +kernel
theorem dM_spend_45 : decode cM_spend 45 = .ok (.aload_n 0, 1) := by decide +kernel
theorem dM_spend_46 : decode cM_spend 46 = .ok (.getfield 171, 3) := by decide +kernel
theorem dM_spend_49 : decode cM_spend 49 = .ok (.imul, 1) := by decide +kernel
theorem dM_spend_50 : decode cM_spend 50 = .ok (.istore 6, 2) := by decide +kernel
theorem dM_spend_52 : decode cM_spend 52 = .ok (.iload_n 3, 1) := by decide +kernel
theorem dM_spend_53 : decode cM_spend 53 = .ok (.i2l, 1) := by decide +kernel
theorem dM_spend_54 : decode cM_spend 54 = .ok (.iload 4, 2) := by decide +kernel
theorem dM_spend_56 : decode cM_spend 56 = .ok (.i2l, 1) := by decide +kernel
theorem dM_spend_57 : decode cM_spend 57 = .ok (.aload_n 0, 1) := by decide +kernel
theorem dM_spend_58 : decode cM_spend 58 = .ok (.getfield 36, 3) := by decide +kernel
theorem dM_spend_61 : decode cM_spend 61 = .ok (.iload 5, 2) := by decide +kernel
theorem dM_spend_63 : decode cM_spend 63 = .ok (.laload, 1) := by decide +kernel
theorem dM_spend_64 : decode cM_spend 64 = .ok (.invokestatic 174, 3) := by decide +kernel
theorem dM_spend_67 : decode cM_spend 67 = .ok (.lstore 7, 2) := by decide +kernel
theorem dM_spend_69 : decode cM_spend 69 = .ok (.aload_n 0, 1) := by decide +kernel
theorem dM_spend_70 : decode cM_spend 70 = .ok (.getfield 46, 3) := by decide +kernel
theorem dM_spend_73 : decode cM_spend 73 = .ok (.iload 6, 2) := by decide +kernel
theorem dM_spend_75 : decode cM_spend 75 = .ok (.aload_n 0, 1) := by decide +kernel
theorem dM_spend_76 : decode cM_spend 76 = .ok (.getfield 29, 3) := by decide +kernel
theorem dM_spend_79 : decode cM_spend 79 = .ok (.iload 5, 2) := by decide +kernel
theorem dM_spend_81 : decode cM_spend 81 = .ok (.iaload, 1) := by decide +kernel
theorem dM_spend_82 : decode cM_spend 82 = .ok (.i2l, 1) := by decide +kernel
theorem dM_spend_83 : decode cM_spend 83 = .ok (.lastore, 1) := by decide +kernel
theorem dM_spend_84 : decode cM_spend 84 = .ok (.aload_n 0, 1) := by decide +kernel
theorem dM_spend_85 : decode cM_spend 85 = .ok (.getfield 46, 3) := by decide +kernel
theorem dM_spend_88 : decode cM_spend 88 = .ok (.iload 6, 2) := by decide +kernel
theorem dM_spend_90 : decode cM_spend 90 = .ok (.iconst 1, 1) := by decide +kernel
theorem dM_spend_91 : decode cM_spend 91 = .ok (.iadd, 1) := by decide +kernel
theorem dM_spend_92 : decode cM_spend 92 = .ok (.aload_n 0, 1) := by decide +kernel
theorem dM_spend_93 : decode cM_spend 93 = .ok (.getfield 36, 3) := by decide +kernel
theorem dM_spend_96 : decode cM_spend 96 = .ok (.iload 5, 2) := by decide +kernel
theorem dM_spend_98 : decode cM_spend 98 = .ok (.laload, 1) := by decide +kernel
theorem dM_spend_99 : decode cM_spend 99 = .ok (.lastore, 1) := by decide +kernel
theorem dM_spend_100 : decode cM_spend 100 = .ok (.aload_n 0, 1) := by decide +kernel
theorem dM_spend_101 : decode cM_spend 101 = .ok (.getfield 46, 3) := by decide +kernel
theorem dM_spend_104 : decode cM_spend 104 = .ok (.iload 6, 2) := by decide +kernel
theorem dM_spend_106 : decode cM_spend 106 = .ok (.iconst 2, 1) := by decide +kernel
theorem dM_spend_107 : decode cM_spend 107 = .ok (.iadd, 1) := by decide +kernel
theorem dM_spend_108 : decode cM_spend 108 = .ok (.iload_n 3, 1) := by decide +kernel
theorem dM_spend_109 : decode cM_spend 109 = .ok (.i2l, 1) := by decide +kernel
theorem dM_spend_110 : decode cM_spend 110 = .ok (.lastore, 1) := by decide +kernel
theorem dM_spend_111 : decode cM_spend 111 = .ok (.aload_n 0, 1) := by decide +kernel
theorem dM_spend_112 : decode cM_spend 112 = .ok (.getfield 46, 3) := by decide +kernel
theorem dM_spend_115 : decode cM_spend 115 = .ok (.iload 6, 2) := by decide +kernel
theorem dM_spend_117 : decode cM_spend 117 = .ok (.iconst 3, 1) := by decide +kernel
theorem dM_spend_118 : decode cM_spend 118 = .ok (.iadd, 1) := by decide +kernel
theorem dM_spend_119 : decode cM_spend 119 = .ok (.iload 4, 2) := by decide +kernel
theorem dM_spend_121 : decode cM_spend 121 = .ok (.i2l, 1) := by decide +kernel
theorem dM_spend_122 : decode cM_spend 122 = .ok (.lastore, 1) := by decide +kernel
theorem dM_spend_123 : decode cM_spend 123 = .ok (.iconst 0, 1) := by decide +kernel
theorem dM_spend_124 : decode cM_spend 124 = .ok (.istore 9, 2) := by decide +kernel
theorem dM_spend_126 : decode cM_spend 126 = .ok (.iload 9, 2) := by decide +kernel
theorem dM_spend_128 : decode cM_spend 128 = .ok (.iconst 4, 1) := by decide +kernel
theorem dM_spend_129 : decode cM_spend 129 = .ok (.if_icmp .ge 150, 3) := by decide +kernel
theorem dM_spend_132 : decode cM_spend 132 = .ok (.bipush 16, 2) := by decide +kernel
theorem dM_spend_134 : decode cM_spend 134 = .ok (.iload 5, 2) := by decide +kernel
theorem dM_spend_136 : decode cM_spend 136 = .ok (.imul, 1) := by decide +kernel
theorem dM_spend_137 : decode cM_spend 137 = .ok (.iconst 4, 1) := by decide +kernel
theorem dM_spend_138 : decode cM_spend 138 = .ok (.iload 9, 2) := by decide +kernel
theorem dM_spend_140 : decode cM_spend 140 = .ok (.imul, 1) := by decide +kernel
theorem dM_spend_141 : decode cM_spend 141 = .ok (.iadd, 1) := by decide +kernel
theorem dM_spend_142 : decode cM_spend 142 = .ok (.istore 10, 2) := by decide +kernel
theorem dM_spend_144 : decode cM_spend 144 = .ok (.lload 7, 2) := by decide +kernel
theorem dM_spend_146 : decode cM_spend 146 = .ok (.iload 9, 2) := by decide +kernel
theorem dM_spend_148 : decode cM_spend 148 = .ok (.lshr, 1) := by decide +kernel
theorem dM_spend_149 : decode cM_spend 149 = .ok (.lconst 1, 1) := by decide +kernel
theorem dM_spend_150 : decode cM_spend 150 = .ok (.land, 1) := by decide +kernel
theorem dM_spend_151 : decode cM_spend 151 = .ok (.lconst 1, 1) := by decide +kernel
theorem dM_spend_152 : decode cM_spend 152 = .ok (.lcmp, 1) := by decide +kernel
theorem dM_spend_153 : decode cM_spend 153 = .ok (.ifCond .ne 7, 3) := by decide +kernel
theorem dM_spend_156 : decode cM_spend 156 = .ok (.iconst 1, 1) := by decide +kernel
theorem dM_spend_157 : decode cM_spend 157 = .ok (.goto 4, 3) := by decide +kernel
theorem dM_spend_160 : decode cM_spend 160 = .ok (.iconst 0, 1) := by decide +kernel
theorem dM_spend_161 : decode cM_spend 161 = .ok (.istore 11, 2) := by decide +kernel
theorem dM_spend_163 : decode cM_spend 163 = .ok (.iload 11, 2) := by decide +kernel
theorem dM_spend_165 : decode cM_spend 165 = .ok (.ifCond .eq 8, 3) := by decide +kernel
theorem dM_spend_168 : decode cM_spend 168 = .ok (.iload 10, 2) := by decide +kernel
theorem dM_spend_170 : decode cM_spend 170 = .ok (.goto 7, 3) := by decide +kernel
theorem dM_spend_173 : decode cM_spend 173 = .ok (.iload 10, 2) := by decide +kernel
theorem dM_spend_175 : decode cM_spend 175 = .ok (.iconst 1, 1) := by decide +kernel
theorem dM_spend_176 : decode cM_spend 176 = .ok (.iadd, 1) := by decide +kernel
theorem dM_spend_177 : decode cM_spend 177 = .ok (.istore 12, 2) := by decide +kernel
theorem dM_spend_179 : decode cM_spend 179 = .ok (.iload 11, 2) := by decide +kernel
theorem dM_spend_181 : decode cM_spend 181 = .ok (.ifCond .eq 10, 3) := by decide +kernel
theorem dM_spend_184 : decode cM_spend 184 = .ok (.iload 10, 2) := by decide +kernel
theorem dM_spend_186 : decode cM_spend 186 = .ok (.iconst 1, 1) := by decide +kernel
theorem dM_spend_187 : decode cM_spend 187 = .ok (.iadd, 1) := by decide +kernel
theorem dM_spend_188 : decode cM_spend 188 = .ok (.goto 5, 3) := by decide +kernel
theorem dM_spend_191 : decode cM_spend 191 = .ok (.iload 10, 2) := by decide +kernel
theorem dM_spend_193 : decode cM_spend 193 = .ok (.istore 13, 2) := by decide +kernel
theorem dM_spend_195 : decode cM_spend 195 = .ok (.aload_n 0, 1) := by decide +kernel
theorem dM_spend_196 : decode cM_spend 196 = .ok (.getfield 46, 3) := by decide +kernel
theorem dM_spend_199 : decode cM_spend 199 = .ok (.iload 6, 2) := by decide +kernel
theorem dM_spend_201 : decode cM_spend 201 = .ok (.iconst 4, 1) := by decide +kernel
theorem dM_spend_202 : decode cM_spend 202 = .ok (.iadd, 1) := by decide +kernel
theorem dM_spend_203 : decode cM_spend 203 = .ok (.iconst 3, 1) := by decide +kernel
theorem dM_spend_204 : decode cM_spend 204 = .ok (.iload 9, 2) := by decide +kernel
theorem dM_spend_206 : decode cM_spend 206 = .ok (.imul, 1) := by decide +kernel
theorem dM_spend_207 : decode cM_spend 207 = .ok (.iadd, 1) := by decide +kernel
theorem dM_spend_208 : decode cM_spend 208 = .ok (.aload_n 0, 1) := by decide +kernel
theorem dM_spend_209 : decode cM_spend 209 = .ok (.getfield 43, 3) := by decide +kernel
theorem dM_spend_212 : decode cM_spend 212 = .ok (.iload 12, 2) := by decide +kernel
theorem dM_spend_214 : decode cM_spend 214 = .ok (.laload, 1) := by decide +kernel
theorem dM_spend_215 : decode cM_spend 215 = .ok (.lastore, 1) := by decide +kernel
theorem dM_spend_216 : decode cM_spend 216 = .ok (.aload_n 0, 1) := by decide +kernel
theorem dM_spend_217 : decode cM_spend 217 = .ok (.getfield 46, 3) := by decide +kernel
theorem dM_spend_220 : decode cM_spend 220 = .ok (.iload 6, 2) := by decide +kernel
theorem dM_spend_222 : decode cM_spend 222 = .ok (.iconst 5, 1) := by decide +kernel
theorem dM_spend_223 : decode cM_spend 223 = .ok (.iadd, 1) := by decide +kernel
theorem dM_spend_224 : decode cM_spend 224 = .ok (.iconst 3, 1) := by decide +kernel
theorem dM_spend_225 : decode cM_spend 225 = .ok (.iload 9, 2) := by decide +kernel
theorem dM_spend_227 : decode cM_spend 227 = .ok (.imul, 1) := by decide +kernel
theorem dM_spend_228 : decode cM_spend 228 = .ok (.iadd, 1) := by decide +kernel
theorem dM_spend_229 : decode cM_spend 229 = .ok (.aload_n 0, 1) := by decide +kernel
theorem dM_spend_230 : decode cM_spend 230 = .ok (.getfield 43, 3) := by decide +kernel
theorem dM_spend_233 : decode cM_spend 233 = .ok (.iload 12, 2) := by decide +kernel
theorem dM_spend_235 : decode cM_spend 235 = .ok (.iconst 2, 1) := by decide +kernel
theorem dM_spend_236 : decode cM_spend 236 = .ok (.iadd, 1) := by decide +kernel
theorem dM_spend_237 : decode cM_spend 237 = .ok (.laload, 1) := by decide +kernel
theorem dM_spend_238 : decode cM_spend 238 = .ok (.lastore, 1) := by decide +kernel
theorem dM_spend_239 : decode cM_spend 239 = .ok (.aload_n 0, 1) := by decide +kernel
theorem dM_spend_240 : decode cM_spend 240 = .ok (.getfield 46, 3) := by decide +kernel
theorem dM_spend_243 : decode cM_spend 243 = .ok (.iload 6, 2) := by decide +kernel
theorem dM_spend_245 : decode cM_spend 245 = .ok (.bipush 6, 2) := by decide +kernel
theorem dM_spend_247 : decode cM_spend 247 = .ok (.iadd, 1) := by decide +kernel
theorem dM_spend_248 : decode cM_spend 248 = .ok (.iconst 3, 1) := by decide +kernel
theorem dM_spend_249 : decode cM_spend 249 = .ok (.iload 9, 2) := by decide +kernel
theorem dM_spend_251 : decode cM_spend 251 = .ok (.imul, 1) := by decide +kernel
theorem dM_spend_252 : decode cM_spend 252 = .ok (.iadd, 1) := by decide +kernel
theorem dM_spend_253 : decode cM_spend 253 = .ok (.aload_n 0, 1) := by decide +kernel
theorem dM_spend_254 : decode cM_spend 254 = .ok (.getfield 43, 3) := by decide +kernel
theorem dM_spend_257 : decode cM_spend 257 = .ok (.iload 13, 2) := by decide +kernel
theorem dM_spend_259 : decode cM_spend 259 = .ok (.laload, 1) := by decide +kernel
theorem dM_spend_260 : decode cM_spend 260 = .ok (.aload_n 0, 1) := by decide +kernel
theorem dM_spend_261 : decode cM_spend 261 = .ok (.getfield 43, 3) := by decide +kernel
theorem dM_spend_264 : decode cM_spend 264 = .ok (.iload 13, 2) := by decide +kernel
theorem dM_spend_266 : decode cM_spend 266 = .ok (.iconst 2, 1) := by decide +kernel
theorem dM_spend_267 : decode cM_spend 267 = .ok (.iadd, 1) := by decide +kernel
theorem dM_spend_268 : decode cM_spend 268 = .ok (.laload, 1) := by decide +kernel
theorem dM_spend_269 : decode cM_spend 269 = .ok (.invokestatic 125, 3) := by decide +kernel
theorem dM_spend_272 : decode cM_spend 272 = .ok (.lastore, 1) := by decide +kernel
theorem dM_spend_273 : decode cM_spend 273 = .ok (.iinc 9 1, 3) := by decide +kernel
theorem dM_spend_276 : decode cM_spend 276 = .ok (.goto (-150), 3) := by decide +kernel
theorem dM_spend_279 : decode cM_spend 279 = .ok (.aload_n 0, 1) := by decide +kernel
theorem dM_spend_280 : decode cM_spend 280 = .ok (.getfield 39, 3) := by decide +kernel
theorem dM_spend_283 : decode cM_spend 283 = .ok (.iload 5, 2) := by decide +kernel
theorem dM_spend_285 : decode cM_spend 285 = .ok (.iconst 1, 1) := by decide +kernel
theorem dM_spend_286 : decode cM_spend 286 = .ok (.bastore, 1) := by decide +kernel
theorem dM_spend_287 : decode cM_spend 287 = .ok (.aload_n 0, 1) := by decide +kernel
theorem dM_spend_288 : decode cM_spend 288 = .ok (.dup, 1) := by decide +kernel
theorem dM_spend_289 : decode cM_spend 289 = .ok (.getfield 171, 3) := by decide +kernel
theorem dM_spend_292 : decode cM_spend 292 = .ok (.iconst 1, 1) := by decide +kernel
theorem dM_spend_293 : decode cM_spend 293 = .ok (.iadd, 1) := by decide +kernel
theorem dM_spend_294 : decode cM_spend 294 = .ok (.putfield 171, 3) := by decide +kernel
theorem dM_spend_297 : decode cM_spend 297 = .ok (.aload_n 0, 1) := by decide +kernel
theorem dM_spend_298 : decode cM_spend 298 = .ok (.getfield 171, 3) := by decide +kernel
theorem dM_spend_301 : decode cM_spend 301 = .ok (.iconst 1, 1) := by decide +kernel
theorem dM_spend_302 : decode cM_spend 302 = .ok (.isub, 1) := by decide +kernel
theorem dM_spend_303 : decode cM_spend 303 = .ok (.ireturn, 1) := by decide +kernel
abbrev yM_noCoin : MethodName := { cls := "BlindMintModel", name := "noCoin", desc := "(II)Z" }
abbrev cM_noCoin : ByteArray := prog_12_method_23_code
theorem dM_noCoin_0 : decode cM_noCoin 0 = .ok (.iload_n 1, 1) := by decide +kernel
theorem dM_noCoin_1 : decode cM_noCoin 1 = .ok (.iconst 4, 1) := by decide +kernel
theorem dM_noCoin_2 : decode cM_noCoin 2 = .ok (.invokestatic 136, 3) := by decide +kernel
theorem dM_noCoin_5 : decode cM_noCoin 5 = .ok (.ifCond .eq 16, 3) := by decide +kernel
theorem dM_noCoin_8 : decode cM_noCoin 8 = .ok (.iload_n 2, 1) := by decide +kernel
theorem dM_noCoin_9 : decode cM_noCoin 9 = .ok (.aload_n 0, 1) := by decide +kernel
theorem dM_noCoin_10 : decode cM_noCoin 10 = .ok (.getfield 26, 3) := by decide +kernel
theorem dM_noCoin_13 : decode cM_noCoin 13 = .ok (.iload_n 1, 1) := by decide +kernel
theorem dM_noCoin_14 : decode cM_noCoin 14 = .ok (.iaload, 1) := by decide +kernel
theorem dM_noCoin_15 : decode cM_noCoin 15 = .ok (.invokestatic 136, 3) := by decide +kernel
theorem dM_noCoin_18 : decode cM_noCoin 18 = .ok (.ifCond .ne 7, 3) := by decide +kernel
theorem dM_noCoin_21 : decode cM_noCoin 21 = .ok (.iconst 1, 1) := by decide +kernel
theorem dM_noCoin_22 : decode cM_noCoin 22 = .ok (.goto 4, 3) := by decide +kernel
theorem dM_noCoin_25 : decode cM_noCoin 25 = .ok (.iconst 0, 1) := by decide +kernel
theorem dM_noCoin_26 : decode cM_noCoin 26 = .ok (.ireturn, 1) := by decide +kernel
abbrev yM_hash3 : MethodName := { cls := "BlindMintModel", name := "hash3", desc := "(JJJ)J" }
abbrev cM_hash3 : ByteArray := prog_12_method_8_code
theorem dM_hash3_0 : decode cM_hash3 0 = .ok (.ldc2_w 82, 3) := by decide +kernel
theorem dM_hash3_3 : decode cM_hash3 3 = .ok (.lload_n 0, 1) := by decide +kernel
theorem dM_hash3_4 : decode cM_hash3 4 = .ok (.invokestatic 84, 3) := by decide +kernel
theorem dM_hash3_7 : decode cM_hash3 7 = .ok (.lload_n 2, 1) := by decide +kernel
theorem dM_hash3_8 : decode cM_hash3 8 = .ok (.invokestatic 84, 3) := by decide +kernel
theorem dM_hash3_11 : decode cM_hash3 11 = .ok (.lload 4, 2) := by decide +kernel
theorem dM_hash3_13 : decode cM_hash3 13 = .ok (.invokestatic 84, 3) := by decide +kernel
theorem dM_hash3_16 : decode cM_hash3 16 = .ok (.invokestatic 88, 3) := by decide +kernel
theorem dM_hash3_19 : decode cM_hash3 19 = .ok (.lreturn, 1) := by decide +kernel
abbrev yM_tamper : MethodName := { cls := "BlindMintModel", name := "tamper", desc := "(IIJ)J" }
abbrev cM_tamper : ByteArray := prog_12_method_26_code
theorem dM_tamper_0 : decode cM_tamper 0 = .ok (.aload_n 0, 1) := by decide +kernel
theorem dM_tamper_1 : decode cM_tamper 1 = .ok (.iconst 0, 1) := by decide +kernel
theorem dM_tamper_2 : decode cM_tamper 2 = .ok (.putfield 73, 3) := by decide +kernel
theorem dM_tamper_5 : decode cM_tamper 5 = .ok (.aload_n 0, 1) := by decide +kernel
theorem dM_tamper_6 : decode cM_tamper 6 = .ok (.iload_n 1, 1) := by decide +kernel
theorem dM_tamper_7 : decode cM_tamper 7 = .ok (.iload_n 2, 1) := by decide +kernel
theorem dM_tamper_8 : decode cM_tamper 8 = .ok (.invokevirtual 177, 3) := by decide +kernel
theorem dM_tamper_11 : decode cM_tamper 11 = .ok (.ifCond .eq 10, 3) := by decide +kernel
theorem dM_tamper_14 : decode cM_tamper 14 = .ok (.aload_n 0, 1) := by decide +kernel
theorem dM_tamper_15 : decode cM_tamper 15 = .ok (.iconst 1, 1) := by decide +kernel
theorem dM_tamper_16 : decode cM_tamper 16 = .ok (.invokevirtual 140, 3) := by decide +kernel
theorem dM_tamper_19 : decode cM_tamper 19 = .ok (.i2l, 1) := by decide +kernel
theorem dM_tamper_20 : decode cM_tamper 20 = .ok (.lreturn, 1) := by decide +kernel
theorem dM_tamper_21 : decode cM_tamper 21 = .ok (.aload_n 0, 1) := by decide +kernel
theorem dM_tamper_22 : decode cM_tamper 22 = .ok (.getfield 46, 3) := by decide +kernel
theorem dM_tamper_25 : decode cM_tamper 25 = .ok (.bipush 16, 2) := by decide +kernel
theorem dM_tamper_27 : decode cM_tamper 27 = .ok (.iload_n 1, 1) := by decide +kernel
theorem dM_tamper_28 : decode cM_tamper 28 = .ok (.imul, 1) := by decide +kernel
theorem dM_tamper_29 : decode cM_tamper 29 = .ok (.iload_n 2, 1) := by decide +kernel
theorem dM_tamper_30 : decode cM_tamper 30 = .ok (.iadd, 1) := by decide +kernel
theorem dM_tamper_31 : decode cM_tamper 31 = .ok (.dup2, 1) := by decide +kernel
theorem dM_tamper_32 : decode cM_tamper 32 = .ok (.laload, 1) := by decide +kernel
theorem dM_tamper_33 : decode cM_tamper 33 = .ok (.lload_n 3, 1) := by decide +kernel
theorem dM_tamper_34 : decode cM_tamper 34 = .ok (.lxor, 1) := by decide +kernel
theorem dM_tamper_35 : decode cM_tamper 35 = .ok (.lastore, 1) := by decide +kernel
theorem dM_tamper_36 : decode cM_tamper 36 = .ok (.aload_n 0, 1) := by decide +kernel
theorem dM_tamper_37 : decode cM_tamper 37 = .ok (.getfield 46, 3) := by decide +kernel
theorem dM_tamper_40 : decode cM_tamper 40 = .ok (.bipush 16, 2) := by decide +kernel
theorem dM_tamper_42 : decode cM_tamper 42 = .ok (.iload_n 1, 1) := by decide +kernel
theorem dM_tamper_43 : decode cM_tamper 43 = .ok (.imul, 1) := by decide +kernel
theorem dM_tamper_44 : decode cM_tamper 44 = .ok (.iload_n 2, 1) := by decide +kernel
theorem dM_tamper_45 : decode cM_tamper 45 = .ok (.iadd, 1) := by decide +kernel
theorem dM_tamper_46 : decode cM_tamper 46 = .ok (.laload, 1) := by decide +kernel
theorem dM_tamper_47 : decode cM_tamper 47 = .ok (.lreturn, 1) := by decide +kernel
abbrev yM_noNumber : MethodName := { cls := "BlindMintModel", name := "noNumber", desc := "(II)Z" }
abbrev cM_noNumber : ByteArray := prog_12_method_25_code
theorem dM_noNumber_0 : decode cM_noNumber 0 = .ok (.iload_n 1, 1) := by decide +kernel
theorem dM_noNumber_1 : decode cM_noNumber 1 = .ok (.aload_n 0, 1) := by decide +kernel
theorem dM_noNumber_2 : decode cM_noNumber 2 = .ok (.getfield 171, 3) := by decide +kernel
theorem dM_noNumber_5 : decode cM_noNumber 5 = .ok (.invokestatic 136, 3) := by decide +kernel
theorem dM_noNumber_8 : decode cM_noNumber 8 = .ok (.ifCond .eq 12, 3) := by decide +kernel
theorem dM_noNumber_11 : decode cM_noNumber 11 = .ok (.iload_n 2, 1) := by decide +kernel
theorem dM_noNumber_12 : decode cM_noNumber 12 = .ok (.bipush 16, 2) := by decide +kernel
theorem dM_noNumber_14 : decode cM_noNumber 14 = .ok (.invokestatic 136, 3) := by decide +kernel
theorem dM_noNumber_17 : decode cM_noNumber 17 = .ok (.ifCond .ne 7, 3) := by decide +kernel
theorem dM_noNumber_20 : decode cM_noNumber 20 = .ok (.iconst 1, 1) := by decide +kernel
theorem dM_noNumber_21 : decode cM_noNumber 21 = .ok (.goto 4, 3) := by decide +kernel
theorem dM_noNumber_24 : decode cM_noNumber 24 = .ok (.iconst 0, 1) := by decide +kernel
theorem dM_noNumber_25 : decode cM_noNumber 25 = .ok (.ireturn, 1) := by decide +kernel
abbrev yM_number : MethodName := { cls := "BlindMintModel", name := "number", desc := "(II)J" }
abbrev cM_number : ByteArray := prog_12_method_27_code
theorem dM_number_0 : decode cM_number 0 = .ok (.aload_n 0, 1) := by decide +kernel
theorem dM_number_1 : decode cM_number 1 = .ok (.iconst 0, 1) := by decide +kernel
theorem dM_number_2 : decode cM_number 2 = .ok (.putfield 73, 3) := by decide +kernel
theorem dM_number_5 : decode cM_number 5 = .ok (.aload_n 0, 1) := by decide +kernel
theorem dM_number_6 : decode cM_number 6 = .ok (.iload_n 1, 1) := by decide +kernel
theorem dM_number_7 : decode cM_number 7 = .ok (.iload_n 2, 1) := by decide +kernel
theorem dM_number_8 : decode cM_number 8 = .ok (.invokevirtual 177, 3) := by decide +kernel
theorem dM_number_11 : decode cM_number 11 = .ok (.ifCond .eq 12, 3) := by decide +kernel
theorem dM_number_14 : decode cM_number 14 = .ok (.aload_n 0, 1) := by decide +kernel
theorem dM_number_15 : decode cM_number 15 = .ok (.iconst 1, 1) := by decide +kernel
theorem dM_number_16 : decode cM_number 16 = .ok (.invokevirtual 140, 3) := by decide +kernel
theorem dM_number_19 : decode cM_number 19 = .ok (.i2l, 1) := by decide +kernel
theorem dM_number_20 : decode cM_number 20 = .ok (.goto 14, 3) := by decide +kernel
theorem dM_number_23 : decode cM_number 23 = .ok (.aload_n 0, 1) := by decide +kernel
theorem dM_number_24 : decode cM_number 24 = .ok (.getfield 46, 3) := by decide +kernel
theorem dM_number_27 : decode cM_number 27 = .ok (.bipush 16, 2) := by decide +kernel
theorem dM_number_29 : decode cM_number 29 = .ok (.iload_n 1, 1) := by decide +kernel
theorem dM_number_30 : decode cM_number 30 = .ok (.imul, 1) := by decide +kernel
theorem dM_number_31 : decode cM_number 31 = .ok (.iload_n 2, 1) := by decide +kernel
theorem dM_number_32 : decode cM_number 32 = .ok (.iadd, 1) := by decide +kernel
theorem dM_number_33 : decode cM_number 33 = .ok (.laload, 1) := by decide +kernel
theorem dM_number_34 : decode cM_number 34 = .ok (.lreturn, 1) := by decide +kernel
abbrev yM_good : MethodName := { cls := "BlindMintModel", name := "good", desc := "(I)Z" }
abbrev cM_good : ByteArray := prog_12_method_30_code
theorem dM_good_0 : decode cM_good 0 = .ok (.aload_n 0, 1) := by decide +kernel
theorem dM_good_1 : decode cM_good 1 = .ok (.iconst 0, 1) := by decide +kernel
theorem dM_good_2 : decode cM_good 2 = .ok (.putfield 73, 3) := by decide +kernel
theorem dM_good_5 : decode cM_good 5 = .ok (.aload_n 0, 1) := by decide +kernel
theorem dM_good_6 : decode cM_good 6 = .ok (.iload_n 1, 1) := by decide +kernel
theorem dM_good_7 : decode cM_good 7 = .ok (.invokevirtual 188, 3) := by decide +kernel
theorem dM_good_10 : decode cM_good 10 = .ok (.ireturn, 1) := by decide +kernel
abbrev yM_isGood : MethodName := { cls := "BlindMintModel", name := "isGood", desc := "(I)Z" }
abbrev cM_isGood : ByteArray := prog_12_method_29_code
theorem dM_isGood_0 : decode cM_isGood 0 = .ok (.iload_n 1, 1) := by decide +kernel
theorem dM_isGood_1 : decode cM_isGood 1 = .ok (.aload_n 0, 1) := by decide +kernel
theorem dM_isGood_2 : decode cM_isGood 2 = .ok (.getfield 171, 3) := by decide +kernel
theorem dM_isGood_5 : decode cM_isGood 5 = .ok (.invokestatic 136, 3) := by decide +kernel
theorem dM_isGood_8 : decode cM_isGood 8 = .ok (.ifCond .eq 33, 3) := by decide +kernel
theorem dM_isGood_11 : decode cM_isGood 11 = .ok (.aload_n 0, 1) := by decide +kernel
theorem dM_isGood_12 : decode cM_isGood 12 = .ok (.getfield 46, 3) := by decide +kernel
theorem dM_isGood_15 : decode cM_isGood 15 = .ok (.bipush 16, 2) := by decide +kernel
theorem dM_isGood_17 : decode cM_isGood 17 = .ok (.iload_n 1, 1) := by decide +kernel
theorem dM_isGood_18 : decode cM_isGood 18 = .ok (.imul, 1) := by decide +kernel
theorem dM_isGood_19 : decode cM_isGood 19 = .ok (.laload, 1) := by decide +kernel
theorem dM_isGood_20 : decode cM_isGood 20 = .ok (.lconst 0, 1) := by decide +kernel
theorem dM_isGood_21 : decode cM_isGood 21 = .ok (.lcmp, 1) := by decide +kernel
theorem dM_isGood_22 : decode cM_isGood 22 = .ok (.ifCond .lt 19, 3) := by decide +kernel
theorem dM_isGood_25 : decode cM_isGood 25 = .ok (.aload_n 0, 1) := by decide +kernel
theorem dM_isGood_26 : decode cM_isGood 26 = .ok (.getfield 46, 3) := by decide +kernel
theorem dM_isGood_29 : decode cM_isGood 29 = .ok (.bipush 16, 2) := by decide +kernel
theorem dM_isGood_31 : decode cM_isGood 31 = .ok (.iload_n 1, 1) := by decide +kernel
theorem dM_isGood_32 : decode cM_isGood 32 = .ok (.imul, 1) := by decide +kernel
theorem dM_isGood_33 : decode cM_isGood 33 = .ok (.laload, 1) := by decide +kernel
theorem dM_isGood_34 : decode cM_isGood 34 = .ok (.ldc2_w 108, 3) := by decide +kernel
theorem dM_isGood_37 : decode cM_isGood 37 = .ok (.lcmp, 1) := by decide +kernel
theorem dM_isGood_38 : decode cM_isGood 38 = .ok (.ifCond .le 5, 3) := by decide +kernel
theorem dM_isGood_41 : decode cM_isGood 41 = .ok (.iconst 0, 1) := by decide +kernel
theorem dM_isGood_42 : decode cM_isGood 42 = .ok (.ireturn, 1) := by decide +kernel
theorem dM_isGood_43 : decode cM_isGood 43 = .ok (.aload_n 0, 1) := by decide +kernel
theorem dM_isGood_44 : decode cM_isGood 44 = .ok (.iload_n 1, 1) := by decide +kernel
theorem dM_isGood_45 : decode cM_isGood 45 = .ok (.invokevirtual 180, 3) := by decide +kernel
theorem dM_isGood_48 : decode cM_isGood 48 = .ok (.lstore_n 2, 1) := by decide +kernel
theorem dM_isGood_49 : decode cM_isGood 49 = .ok (.iconst 1, 1) := by decide +kernel
theorem dM_isGood_50 : decode cM_isGood 50 = .ok (.istore 4, 2) := by decide +kernel
theorem dM_isGood_52 : decode cM_isGood 52 = .ok (.iconst 0, 1) := by decide +kernel
theorem dM_isGood_53 : decode cM_isGood 53 = .ok (.istore 5, 2) := by decide +kernel
theorem dM_isGood_55 : decode cM_isGood 55 = .ok (.iload 5, 2) := by decide +kernel
theorem dM_isGood_57 : decode cM_isGood 57 = .ok (.iconst 4, 1) := by decide +kernel
theorem dM_isGood_58 : decode cM_isGood 58 = .ok (.if_icmp .ge 129, 3) := by decide +kernel
theorem dM_isGood_61 : decode cM_isGood 61 = .ok (.bipush 16, 2) := by decide +kernel
theorem dM_isGood_63 : decode cM_isGood 63 = .ok (.iload_n 1, 1) := by decide +kernel
theorem dM_isGood_64 : decode cM_isGood 64 = .ok (.imul, 1) := by decide +kernel
theorem dM_isGood_65 : decode cM_isGood 65 = .ok (.iconst 4, 1) := by decide +kernel
theorem dM_isGood_66 : decode cM_isGood 66 = .ok (.iadd, 1) := by decide +kernel
theorem dM_isGood_67 : decode cM_isGood 67 = .ok (.iconst 3, 1) := by decide +kernel
theorem dM_isGood_68 : decode cM_isGood 68 = .ok (.iload 5, 2) := by decide +kernel
theorem dM_isGood_70 : decode cM_isGood 70 = .ok (.imul, 1) := by decide +kernel
theorem dM_isGood_71 : decode cM_isGood 71 = .ok (.iadd, 1) := by decide +kernel
theorem dM_isGood_72 : decode cM_isGood 72 = .ok (.istore 6, 2) := by decide +kernel
theorem dM_isGood_74 : decode cM_isGood 74 = .ok (.aload_n 0, 1) := by decide +kernel
theorem dM_isGood_75 : decode cM_isGood 75 = .ok (.getfield 46, 3) := by decide +kernel
theorem dM_isGood_78 : decode cM_isGood 78 = .ok (.iload 6, 2) := by decide +kernel
theorem dM_isGood_80 : decode cM_isGood 80 = .ok (.laload, 1) := by decide +kernel
theorem dM_isGood_81 : decode cM_isGood 81 = .ok (.aload_n 0, 1) := by decide +kernel
theorem dM_isGood_82 : decode cM_isGood 82 = .ok (.getfield 46, 3) := by decide +kernel
theorem dM_isGood_85 : decode cM_isGood 85 = .ok (.iload 6, 2) := by decide +kernel
theorem dM_isGood_87 : decode cM_isGood 87 = .ok (.iconst 1, 1) := by decide +kernel
theorem dM_isGood_88 : decode cM_isGood 88 = .ok (.iadd, 1) := by decide +kernel
theorem dM_isGood_89 : decode cM_isGood 89 = .ok (.laload, 1) := by decide +kernel
theorem dM_isGood_90 : decode cM_isGood 90 = .ok (.invokestatic 125, 3) := by decide +kernel
theorem dM_isGood_93 : decode cM_isGood 93 = .ok (.lstore 7, 2) := by decide +kernel
theorem dM_isGood_95 : decode cM_isGood 95 = .ok (.aload_n 0, 1) := by decide +kernel
theorem dM_isGood_96 : decode cM_isGood 96 = .ok (.getfield 70, 3) := by decide +kernel
theorem dM_isGood_99 : decode cM_isGood 99 = .ok (.iload 5, 2) := by decide +kernel
theorem dM_isGood_101 : decode cM_isGood 101 = .ok (.lload_n 2, 1) := by decide +kernel
theorem dM_isGood_102 : decode cM_isGood 102 = .ok (.iload 5, 2) := by decide +kernel
theorem dM_isGood_104 : decode cM_isGood 104 = .ok (.lshr, 1) := by decide +kernel
theorem dM_isGood_105 : decode cM_isGood 105 = .ok (.lconst 1, 1) := by decide +kernel
theorem dM_isGood_106 : decode cM_isGood 106 = .ok (.land, 1) := by decide +kernel
theorem dM_isGood_107 : decode cM_isGood 107 = .ok (.lconst 1, 1) := by decide +kernel
theorem dM_isGood_108 : decode cM_isGood 108 = .ok (.lcmp, 1) := by decide +kernel
theorem dM_isGood_109 : decode cM_isGood 109 = .ok (.ifCond .ne 20, 3) := by decide +kernel
theorem dM_isGood_112 : decode cM_isGood 112 = .ok (.lload 7, 2) := by decide +kernel
theorem dM_isGood_114 : decode cM_isGood 114 = .ok (.aload_n 0, 1) := by decide +kernel
theorem dM_isGood_115 : decode cM_isGood 115 = .ok (.getfield 46, 3) := by decide +kernel
theorem dM_isGood_118 : decode cM_isGood 118 = .ok (.iload 6, 2) := by decide +kernel
theorem dM_isGood_120 : decode cM_isGood 120 = .ok (.iconst 2, 1) := by decide +kernel
theorem dM_isGood_121 : decode cM_isGood 121 = .ok (.iadd, 1) := by decide +kernel
theorem dM_isGood_122 : decode cM_isGood 122 = .ok (.laload, 1) := by decide +kernel
theorem dM_isGood_123 : decode cM_isGood 123 = .ok (.invokestatic 125, 3) := by decide +kernel
theorem dM_isGood_126 : decode cM_isGood 126 = .ok (.goto 17, 3) := by decide +kernel
theorem dM_isGood_129 : decode cM_isGood 129 = .ok (.aload_n 0, 1) := by decide +kernel
theorem dM_isGood_130 : decode cM_isGood 130 = .ok (.getfield 46, 3) := by decide +kernel
theorem dM_isGood_133 : decode cM_isGood 133 = .ok (.iload 6, 2) := by decide +kernel
theorem dM_isGood_135 : decode cM_isGood 135 = .ok (.iconst 2, 1) := by decide +kernel
theorem dM_isGood_136 : decode cM_isGood 136 = .ok (.iadd, 1) := by decide +kernel
theorem dM_isGood_137 : decode cM_isGood 137 = .ok (.laload, 1) := by decide +kernel
theorem dM_isGood_138 : decode cM_isGood 138 = .ok (.lload 7, 2) := by decide +kernel
theorem dM_isGood_140 : decode cM_isGood 140 = .ok (.invokestatic 125, 3) := by decide +kernel
theorem dM_isGood_143 : decode cM_isGood 143 = .ok (.lastore, 1) := by decide +kernel
theorem dM_isGood_144 : decode cM_isGood 144 = .ok (.iload 4, 2) := by decide +kernel
theorem dM_isGood_146 : decode cM_isGood 146 = .ok (.ifCond .eq 32, 3) := by decide +kernel
theorem dM_isGood_149 : decode cM_isGood 149 = .ok (.iload 5, 2) := by decide +kernel
theorem dM_isGood_151 : decode cM_isGood 151 = .ok (.ifCond .eq 23, 3) := by decide +kernel
theorem dM_isGood_154 : decode cM_isGood 154 = .ok (.aload_n 0, 1) := by decide +kernel
theorem dM_isGood_155 : decode cM_isGood 155 = .ok (.getfield 70, 3) := by decide +kernel
theorem dM_isGood_158 : decode cM_isGood 158 = .ok (.iload 5, 2) := by decide +kernel
theorem dM_isGood_160 : decode cM_isGood 160 = .ok (.laload, 1) := by decide +kernel
theorem dM_isGood_161 : decode cM_isGood 161 = .ok (.aload_n 0, 1) := by decide +kernel
theorem dM_isGood_162 : decode cM_isGood 162 = .ok (.getfield 70, 3) := by decide +kernel
theorem dM_isGood_165 : decode cM_isGood 165 = .ok (.iload 5, 2) := by decide +kernel
theorem dM_isGood_167 : decode cM_isGood 167 = .ok (.iconst 1, 1) := by decide +kernel
theorem dM_isGood_168 : decode cM_isGood 168 = .ok (.isub, 1) := by decide +kernel
theorem dM_isGood_169 : decode cM_isGood 169 = .ok (.laload, 1) := by decide +kernel
theorem dM_isGood_170 : decode cM_isGood 170 = .ok (.lcmp, 1) := by decide +kernel
theorem dM_isGood_171 : decode cM_isGood 171 = .ok (.ifCond .lt 7, 3) := by decide +kernel
theorem dM_isGood_174 : decode cM_isGood 174 = .ok (.iconst 1, 1) := by decide +kernel
theorem dM_isGood_175 : decode cM_isGood 175 = .ok (.goto 4, 3) := by decide +kernel
theorem dM_isGood_178 : decode cM_isGood 178 = .ok (.iconst 0, 1) := by decide +kernel
theorem dM_isGood_179 : decode cM_isGood 179 = .ok (.istore 4, 2) := by decide +kernel
theorem dM_isGood_181 : decode cM_isGood 181 = .ok (.iinc 5 1, 3) := by decide +kernel
theorem dM_isGood_184 : decode cM_isGood 184 = .ok (.goto (-129), 3) := by decide +kernel
theorem dM_isGood_187 : decode cM_isGood 187 = .ok (.iload 4, 2) := by decide +kernel
theorem dM_isGood_189 : decode cM_isGood 189 = .ok (.ifCond .eq 47, 3) := by decide +kernel
theorem dM_isGood_192 : decode cM_isGood 192 = .ok (.aload_n 0, 1) := by decide +kernel
theorem dM_isGood_193 : decode cM_isGood 193 = .ok (.getfield 46, 3) := by decide +kernel
theorem dM_isGood_196 : decode cM_isGood 196 = .ok (.bipush 16, 2) := by decide +kernel
theorem dM_isGood_198 : decode cM_isGood 198 = .ok (.iload_n 1, 1) := by decide +kernel
theorem dM_isGood_199 : decode cM_isGood 199 = .ok (.imul, 1) := by decide +kernel
theorem dM_isGood_200 : decode cM_isGood 200 = .ok (.iconst 1, 1) := by decide +kernel
theorem dM_isGood_201 : decode cM_isGood 201 = .ok (.iadd, 1) := by decide +kernel
theorem dM_isGood_202 : decode cM_isGood 202 = .ok (.laload, 1) := by decide +kernel
theorem dM_isGood_203 : decode cM_isGood 203 = .ok (.aload_n 0, 1) := by decide +kernel
theorem dM_isGood_204 : decode cM_isGood 204 = .ok (.aload_n 0, 1) := by decide +kernel
theorem dM_isGood_205 : decode cM_isGood 205 = .ok (.getfield 46, 3) := by decide +kernel
theorem dM_isGood_208 : decode cM_isGood 208 = .ok (.bipush 16, 2) := by decide +kernel
theorem dM_isGood_210 : decode cM_isGood 210 = .ok (.iload_n 1, 1) := by decide +kernel
theorem dM_isGood_211 : decode cM_isGood 211 = .ok (.imul, 1) := by decide +kernel
theorem dM_isGood_212 : decode cM_isGood 212 = .ok (.laload, 1) := by decide +kernel
theorem dM_isGood_213 : decode cM_isGood 213 = .ok (.invokevirtual 158, 3) := by decide +kernel
theorem dM_isGood_216 : decode cM_isGood 216 = .ok (.aload_n 0, 1) := by decide +kernel
theorem dM_isGood_217 : decode cM_isGood 217 = .ok (.getfield 46, 3) := by decide +kernel
theorem dM_isGood_220 : decode cM_isGood 220 = .ok (.bipush 16, 2) := by decide +kernel
theorem dM_isGood_222 : decode cM_isGood 222 = .ok (.iload_n 1, 1) := by decide +kernel
theorem dM_isGood_223 : decode cM_isGood 223 = .ok (.imul, 1) := by decide +kernel
theorem dM_isGood_224 : decode cM_isGood 224 = .ok (.laload, 1) := by decide +kernel
theorem dM_isGood_225 : decode cM_isGood 225 = .ok (.l2i, 1) := by decide +kernel
theorem dM_isGood_226 : decode cM_isGood 226 = .ok (.invokestatic 184, 3) := by decide +kernel
theorem dM_isGood_229 : decode cM_isGood 229 = .ok (.ifCond .eq 7, 3) := by decide +kernel
theorem dM_isGood_232 : decode cM_isGood 232 = .ok (.iconst 1, 1) := by decide +kernel
theorem dM_isGood_233 : decode cM_isGood 233 = .ok (.goto 4, 3) := by decide +kernel
theorem dM_isGood_236 : decode cM_isGood 236 = .ok (.iconst 0, 1) := by decide +kernel
theorem dM_isGood_237 : decode cM_isGood 237 = .ok (.ireturn, 1) := by decide +kernel
abbrev yM_choiceOf : MethodName := { cls := "BlindMintModel", name := "choiceOf", desc := "(I)J" }
abbrev cM_choiceOf : ByteArray := prog_12_method_28_code
theorem dM_choiceOf_0 : decode cM_choiceOf 0 = .ok (.aload_n 0, 1) := by decide +kernel
theorem dM_choiceOf_1 : decode cM_choiceOf 1 = .ok (.getfield 46, 3) := by decide +kernel
theorem dM_choiceOf_4 : decode cM_choiceOf 4 = .ok (.bipush 16, 2) := by decide +kernel
theorem dM_choiceOf_6 : decode cM_choiceOf 6 = .ok (.iload_n 1, 1) := by decide +kernel
theorem dM_choiceOf_7 : decode cM_choiceOf 7 = .ok (.imul, 1) := by decide +kernel
theorem dM_choiceOf_8 : decode cM_choiceOf 8 = .ok (.iconst 2, 1) := by decide +kernel
theorem dM_choiceOf_9 : decode cM_choiceOf 9 = .ok (.iadd, 1) := by decide +kernel
theorem dM_choiceOf_10 : decode cM_choiceOf 10 = .ok (.laload, 1) := by decide +kernel
theorem dM_choiceOf_11 : decode cM_choiceOf 11 = .ok (.aload_n 0, 1) := by decide +kernel
theorem dM_choiceOf_12 : decode cM_choiceOf 12 = .ok (.getfield 46, 3) := by decide +kernel
theorem dM_choiceOf_15 : decode cM_choiceOf 15 = .ok (.bipush 16, 2) := by decide +kernel
theorem dM_choiceOf_17 : decode cM_choiceOf 17 = .ok (.iload_n 1, 1) := by decide +kernel
theorem dM_choiceOf_18 : decode cM_choiceOf 18 = .ok (.imul, 1) := by decide +kernel
theorem dM_choiceOf_19 : decode cM_choiceOf 19 = .ok (.iconst 3, 1) := by decide +kernel
theorem dM_choiceOf_20 : decode cM_choiceOf 20 = .ok (.iadd, 1) := by decide +kernel
theorem dM_choiceOf_21 : decode cM_choiceOf 21 = .ok (.laload, 1) := by decide +kernel
theorem dM_choiceOf_22 : decode cM_choiceOf 22 = .ok (.aload_n 0, 1) := by decide +kernel
theorem dM_choiceOf_23 : decode cM_choiceOf 23 = .ok (.getfield 46, 3) := by decide +kernel
theorem dM_choiceOf_26 : decode cM_choiceOf 26 = .ok (.bipush 16, 2) := by decide +kernel
theorem dM_choiceOf_28 : decode cM_choiceOf 28 = .ok (.iload_n 1, 1) := by decide +kernel
theorem dM_choiceOf_29 : decode cM_choiceOf 29 = .ok (.imul, 1) := by decide +kernel
theorem dM_choiceOf_30 : decode cM_choiceOf 30 = .ok (.iconst 1, 1) := by decide +kernel
theorem dM_choiceOf_31 : decode cM_choiceOf 31 = .ok (.iadd, 1) := by decide +kernel
theorem dM_choiceOf_32 : decode cM_choiceOf 32 = .ok (.laload, 1) := by decide +kernel
theorem dM_choiceOf_33 : decode cM_choiceOf 33 = .ok (.invokestatic 174, 3) := by decide +kernel
theorem dM_choiceOf_36 : decode cM_choiceOf 36 = .ok (.lreturn, 1) := by decide +kernel
abbrev yM_isSignature : MethodName := { cls := "BlindMintModel", name := "isSignature", desc := "(JJI)Z" }
abbrev cM_isSignature : ByteArray := prog_12_method_16_code
theorem dM_isSignature_0 : decode cM_isSignature 0 = .ok (.iload 4, 2) := by decide +kernel
theorem dM_isSignature_2 : decode cM_isSignature 2 = .ok (.iconst 0, 1) := by decide +kernel
theorem dM_isSignature_3 : decode cM_isSignature 3 = .ok (.invokestatic 104, 3) := by decide +kernel
theorem dM_isSignature_6 : decode cM_isSignature 6 = .ok (.lstore 5, 2) := by decide +kernel
theorem dM_isSignature_8 : decode cM_isSignature 8 = .ok (.iload 4, 2) := by decide +kernel
theorem dM_isSignature_10 : decode cM_isSignature 10 = .ok (.iconst 1, 1) := by decide +kernel
theorem dM_isSignature_11 : decode cM_isSignature 11 = .ok (.invokestatic 104, 3) := by decide +kernel
theorem dM_isSignature_14 : decode cM_isSignature 14 = .ok (.lstore 7, 2) := by decide +kernel
theorem dM_isSignature_16 : decode cM_isSignature 16 = .ok (.lload_n 0, 1) := by decide +kernel
theorem dM_isSignature_17 : decode cM_isSignature 17 = .ok (.lconst 0, 1) := by decide +kernel
theorem dM_isSignature_18 : decode cM_isSignature 18 = .ok (.lcmp, 1) := by decide +kernel
theorem dM_isSignature_19 : decode cM_isSignature 19 = .ok (.ifCond .lt 51, 3) := by decide +kernel
theorem dM_isSignature_22 : decode cM_isSignature 22 = .ok (.lload_n 0, 1) := by decide +kernel
theorem dM_isSignature_23 : decode cM_isSignature 23 = .ok (.lload 5, 2) := by decide +kernel
theorem dM_isSignature_25 : decode cM_isSignature 25 = .ok (.lload 7, 2) := by decide +kernel
theorem dM_isSignature_27 : decode cM_isSignature 27 = .ok (.lmul, 1) := by decide +kernel
theorem dM_isSignature_28 : decode cM_isSignature 28 = .ok (.lcmp, 1) := by decide +kernel
theorem dM_isSignature_29 : decode cM_isSignature 29 = .ok (.ifCond .ge 41, 3) := by decide +kernel
theorem dM_isSignature_32 : decode cM_isSignature 32 = .ok (.lload_n 0, 1) := by decide +kernel
theorem dM_isSignature_33 : decode cM_isSignature 33 = .ok (.ldc2_w 114, 3) := by decide +kernel
theorem dM_isSignature_36 : decode cM_isSignature 36 = .ok (.lload 5, 2) := by decide +kernel
theorem dM_isSignature_38 : decode cM_isSignature 38 = .ok (.invokestatic 110, 3) := by decide +kernel
theorem dM_isSignature_41 : decode cM_isSignature 41 = .ok (.lload_n 2, 1) := by decide +kernel
theorem dM_isSignature_42 : decode cM_isSignature 42 = .ok (.lload 5, 2) := by decide +kernel
theorem dM_isSignature_44 : decode cM_isSignature 44 = .ok (.lrem, 1) := by decide +kernel
theorem dM_isSignature_45 : decode cM_isSignature 45 = .ok (.lcmp, 1) := by decide +kernel
theorem dM_isSignature_46 : decode cM_isSignature 46 = .ok (.ifCond .ne 24, 3) := by decide +kernel
theorem dM_isSignature_49 : decode cM_isSignature 49 = .ok (.lload_n 0, 1) := by decide +kernel
theorem dM_isSignature_50 : decode cM_isSignature 50 = .ok (.ldc2_w 114, 3) := by decide +kernel
theorem dM_isSignature_53 : decode cM_isSignature 53 = .ok (.lload 7, 2) := by decide +kernel
theorem dM_isSignature_55 : decode cM_isSignature 55 = .ok (.invokestatic 110, 3) := by decide +kernel
theorem dM_isSignature_58 : decode cM_isSignature 58 = .ok (.lload_n 2, 1) := by decide +kernel
theorem dM_isSignature_59 : decode cM_isSignature 59 = .ok (.lload 7, 2) := by decide +kernel
theorem dM_isSignature_61 : decode cM_isSignature 61 = .ok (.lrem, 1) := by decide +kernel
theorem dM_isSignature_62 : decode cM_isSignature 62 = .ok (.lcmp, 1) := by decide +kernel
theorem dM_isSignature_63 : decode cM_isSignature 63 = .ok (.ifCond .ne 7, 3) := by decide +kernel
theorem dM_isSignature_66 : decode cM_isSignature 66 = .ok (.iconst 1, 1) := by decide +kernel
theorem dM_isSignature_67 : decode cM_isSignature 67 = .ok (.goto 4, 3) := by decide +kernel
theorem dM_isSignature_70 : decode cM_isSignature 70 = .ok (.iconst 0, 1) := by decide +kernel
theorem dM_isSignature_71 : decode cM_isSignature 71 = .ok (.ireturn, 1) := by decide +kernel
abbrev yM_deposit : MethodName := { cls := "BlindMintModel", name := "deposit", desc := "(II)I" }
abbrev cM_deposit : ByteArray := prog_12_method_33_code
theorem dM_deposit_0 : decode cM_deposit 0 = .ok (.aload_n 0, 1) := by decide +kernel
theorem dM_deposit_1 : decode cM_deposit 1 = .ok (.iconst 0, 1) := by decide +kernel
theorem dM_deposit_2 : decode cM_deposit 2 = .ok (.putfield 73, 3) := by decide +kernel
theorem dM_deposit_5 : decode cM_deposit 5 = .ok (.iload_n 2, 1) := by decide +kernel
theorem dM_deposit_6 : decode cM_deposit 6 = .ok (.iconst 4, 1) := by decide +kernel
theorem dM_deposit_7 : decode cM_deposit 7 = .ok (.invokestatic 136, 3) := by decide +kernel
theorem dM_deposit_10 : decode cM_deposit 10 = .ok (.ifCond .eq 11, 3) := by decide +kernel
theorem dM_deposit_13 : decode cM_deposit 13 = .ok (.aload_n 0, 1) := by decide +kernel
theorem dM_deposit_14 : decode cM_deposit 14 = .ok (.iload_n 1, 1) := by decide +kernel
theorem dM_deposit_15 : decode cM_deposit 15 = .ok (.invokevirtual 188, 3) := by decide +kernel
theorem dM_deposit_18 : decode cM_deposit 18 = .ok (.ifCond .ne 9, 3) := by decide +kernel
theorem dM_deposit_21 : decode cM_deposit 21 = .ok (.aload_n 0, 1) := by decide +kernel
theorem dM_deposit_22 : decode cM_deposit 22 = .ok (.iconst 1, 1) := by decide +kernel
theorem dM_deposit_23 : decode cM_deposit 23 = .ok (.invokevirtual 140, 3) := by decide +kernel
theorem dM_deposit_26 : decode cM_deposit 26 = .ok (.ireturn, 1) := by decide +kernel
theorem dM_deposit_27 : decode cM_deposit 27 = .ok (.aload_n 0, 1) := by decide +kernel
theorem dM_deposit_28 : decode cM_deposit 28 = .ok (.aload_n 0, 1) := by decide +kernel
theorem dM_deposit_29 : decode cM_deposit 29 = .ok (.getfield 46, 3) := by decide +kernel
theorem dM_deposit_32 : decode cM_deposit 32 = .ok (.bipush 16, 2) := by decide +kernel
theorem dM_deposit_34 : decode cM_deposit 34 = .ok (.iload_n 1, 1) := by decide +kernel
theorem dM_deposit_35 : decode cM_deposit 35 = .ok (.imul, 1) := by decide +kernel
theorem dM_deposit_36 : decode cM_deposit 36 = .ok (.laload, 1) := by decide +kernel
theorem dM_deposit_37 : decode cM_deposit 37 = .ok (.invokevirtual 199, 3) := by decide +kernel
theorem dM_deposit_40 : decode cM_deposit 40 = .ok (.istore_n 3, 1) := by decide +kernel
theorem dM_deposit_41 : decode cM_deposit 41 = .ok (.iload_n 3, 1) := by decide +kernel
theorem dM_deposit_42 : decode cM_deposit 42 = .ok (.ifCond .lt 25, 3) := by decide +kernel
theorem dM_deposit_45 : decode cM_deposit 45 = .ok (.aload_n 0, 1) := by decide +kernel
theorem dM_deposit_46 : decode cM_deposit 46 = .ok (.iload_n 1, 1) := by decide +kernel
theorem dM_deposit_47 : decode cM_deposit 47 = .ok (.iload_n 3, 1) := by decide +kernel
theorem dM_deposit_48 : decode cM_deposit 48 = .ok (.invokevirtual 203, 3) := by decide +kernel
theorem dM_deposit_51 : decode cM_deposit 51 = .ok (.aload_n 0, 1) := by decide +kernel
theorem dM_deposit_52 : decode cM_deposit 52 = .ok (.getfield 13, 3) := by decide +kernel
theorem dM_deposit_55 : decode cM_deposit 55 = .ok (.iconst 3, 1) := by decide +kernel
theorem dM_deposit_56 : decode cM_deposit 56 = .ok (.dup2, 1) := by decide +kernel
theorem dM_deposit_57 : decode cM_deposit 57 = .ok (.iaload, 1) := by decide +kernel
theorem dM_deposit_58 : decode cM_deposit 58 = .ok (.iconst 1, 1) := by decide +kernel
theorem dM_deposit_59 : decode cM_deposit 59 = .ok (.iadd, 1) := by decide +kernel
theorem dM_deposit_60 : decode cM_deposit 60 = .ok (.iastore, 1) := by decide +kernel
theorem dM_deposit_61 : decode cM_deposit 61 = .ok (.aload_n 0, 1) := by decide +kernel
theorem dM_deposit_62 : decode cM_deposit 62 = .ok (.iconst 2, 1) := by decide +kernel
theorem dM_deposit_63 : decode cM_deposit 63 = .ok (.invokevirtual 140, 3) := by decide +kernel
theorem dM_deposit_66 : decode cM_deposit 66 = .ok (.ireturn, 1) := by decide +kernel
theorem dM_deposit_67 : decode cM_deposit 67 = .ok (.bipush 10, 2) := by decide +kernel
theorem dM_deposit_69 : decode cM_deposit 69 = .ok (.aload_n 0, 1) := by decide +kernel
theorem dM_deposit_70 : decode cM_deposit 70 = .ok (.getfield 192, 3) := by decide +kernel
theorem dM_deposit_73 : decode cM_deposit 73 = .ok (.imul, 1) := by decide +kernel
theorem dM_deposit_74 : decode cM_deposit 74 = .ok (.istore 4, 2) := by decide +kernel
theorem dM_deposit_76 : decode cM_deposit 76 = .ok (.aload_n 0, 1) := by decide +kernel
theorem dM_deposit_77 : decode cM_deposit 77 = .ok (.getfield 49, 3) := by decide +kernel
theorem dM_deposit_80 : decode cM_deposit 80 = .ok (.iload 4, 2) := by decide +kernel
theorem dM_deposit_82 : decode cM_deposit 82 = .ok (.aload_n 0, 1) := by decide +kernel
theorem dM_deposit_83 : decode cM_deposit 83 = .ok (.getfield 46, 3) := by decide +kernel
theorem dM_deposit_86 : decode cM_deposit 86 = .ok (.bipush 16, 2) := by decide +kernel
theorem dM_deposit_88 : decode cM_deposit 88 = .ok (.iload_n 1, 1) := by decide +kernel
theorem dM_deposit_89 : decode cM_deposit 89 = .ok (.imul, 1) := by decide +kernel
theorem dM_deposit_90 : decode cM_deposit 90 = .ok (.laload, 1) := by decide +kernel
theorem dM_deposit_91 : decode cM_deposit 91 = .ok (.lastore, 1) := by decide +kernel
theorem dM_deposit_92 : decode cM_deposit 92 = .ok (.aload_n 0, 1) := by decide +kernel
theorem dM_deposit_93 : decode cM_deposit 93 = .ok (.getfield 49, 3) := by decide +kernel
theorem dM_deposit_96 : decode cM_deposit 96 = .ok (.iload 4, 2) := by decide +kernel
theorem dM_deposit_98 : decode cM_deposit 98 = .ok (.iconst 5, 1) := by decide +kernel
theorem dM_deposit_99 : decode cM_deposit 99 = .ok (.iadd, 1) := by decide +kernel
theorem dM_deposit_100 : decode cM_deposit 100 = .ok (.aload_n 0, 1) := by decide +kernel
theorem dM_deposit_101 : decode cM_deposit 101 = .ok (.iload_n 1, 1) := by decide +kernel
theorem dM_deposit_102 : decode cM_deposit 102 = .ok (.invokevirtual 180, 3) := by decide +kernel
theorem dM_deposit_105 : decode cM_deposit 105 = .ok (.lastore, 1) := by decide +kernel
theorem dM_deposit_106 : decode cM_deposit 106 = .ok (.iconst 0, 1) := by decide +kernel
theorem dM_deposit_107 : decode cM_deposit 107 = .ok (.istore 5, 2) := by decide +kernel
theorem dM_deposit_109 : decode cM_deposit 109 = .ok (.iload 5, 2) := by decide +kernel
theorem dM_deposit_111 : decode cM_deposit 111 = .ok (.iconst 4, 1) := by decide +kernel
theorem dM_deposit_112 : decode cM_deposit 112 = .ok (.if_icmp .ge 57, 3) := by decide +kernel
theorem dM_deposit_115 : decode cM_deposit 115 = .ok (.aload_n 0, 1) := by decide +kernel
theorem dM_deposit_116 : decode cM_deposit 116 = .ok (.getfield 49, 3) := by decide +kernel
theorem dM_deposit_119 : decode cM_deposit 119 = .ok (.iload 4, 2) := by decide +kernel
theorem dM_deposit_121 : decode cM_deposit 121 = .ok (.iconst 1, 1) := by decide +kernel
theorem dM_deposit_122 : decode cM_deposit 122 = .ok (.iadd, 1) := by decide +kernel
theorem dM_deposit_123 : decode cM_deposit 123 = .ok (.iload 5, 2) := by decide +kernel
theorem dM_deposit_125 : decode cM_deposit 125 = .ok (.iadd, 1) := by decide +kernel
theorem dM_deposit_126 : decode cM_deposit 126 = .ok (.aload_n 0, 1) := by decide +kernel
theorem dM_deposit_127 : decode cM_deposit 127 = .ok (.getfield 70, 3) := by decide +kernel
theorem dM_deposit_130 : decode cM_deposit 130 = .ok (.iload 5, 2) := by decide +kernel
theorem dM_deposit_132 : decode cM_deposit 132 = .ok (.laload, 1) := by decide +kernel
theorem dM_deposit_133 : decode cM_deposit 133 = .ok (.lastore, 1) := by decide +kernel
theorem dM_deposit_134 : decode cM_deposit 134 = .ok (.aload_n 0, 1) := by decide +kernel
theorem dM_deposit_135 : decode cM_deposit 135 = .ok (.getfield 49, 3) := by decide +kernel
theorem dM_deposit_138 : decode cM_deposit 138 = .ok (.iload 4, 2) := by decide +kernel
theorem dM_deposit_140 : decode cM_deposit 140 = .ok (.bipush 6, 2) := by decide +kernel
theorem dM_deposit_142 : decode cM_deposit 142 = .ok (.iadd, 1) := by decide +kernel
theorem dM_deposit_143 : decode cM_deposit 143 = .ok (.iload 5, 2) := by decide +kernel
theorem dM_deposit_145 : decode cM_deposit 145 = .ok (.iadd, 1) := by decide +kernel
theorem dM_deposit_146 : decode cM_deposit 146 = .ok (.aload_n 0, 1) := by decide +kernel
theorem dM_deposit_147 : decode cM_deposit 147 = .ok (.getfield 46, 3) := by decide +kernel
theorem dM_deposit_150 : decode cM_deposit 150 = .ok (.bipush 16, 2) := by decide +kernel
theorem dM_deposit_152 : decode cM_deposit 152 = .ok (.iload_n 1, 1) := by decide +kernel
theorem dM_deposit_153 : decode cM_deposit 153 = .ok (.imul, 1) := by decide +kernel
theorem dM_deposit_154 : decode cM_deposit 154 = .ok (.iconst 4, 1) := by decide +kernel
theorem dM_deposit_155 : decode cM_deposit 155 = .ok (.iadd, 1) := by decide +kernel
theorem dM_deposit_156 : decode cM_deposit 156 = .ok (.iconst 3, 1) := by decide +kernel
theorem dM_deposit_157 : decode cM_deposit 157 = .ok (.iload 5, 2) := by decide +kernel
theorem dM_deposit_159 : decode cM_deposit 159 = .ok (.imul, 1) := by decide +kernel
theorem dM_deposit_160 : decode cM_deposit 160 = .ok (.iadd, 1) := by decide +kernel
theorem dM_deposit_161 : decode cM_deposit 161 = .ok (.laload, 1) := by decide +kernel
theorem dM_deposit_162 : decode cM_deposit 162 = .ok (.lastore, 1) := by decide +kernel
theorem dM_deposit_163 : decode cM_deposit 163 = .ok (.iinc 5 1, 3) := by decide +kernel
theorem dM_deposit_166 : decode cM_deposit 166 = .ok (.goto (-57), 3) := by decide +kernel
theorem dM_deposit_169 : decode cM_deposit 169 = .ok (.aload_n 0, 1) := by decide +kernel
theorem dM_deposit_170 : decode cM_deposit 170 = .ok (.dup, 1) := by decide +kernel
theorem dM_deposit_171 : decode cM_deposit 171 = .ok (.getfield 192, 3) := by decide +kernel
theorem dM_deposit_174 : decode cM_deposit 174 = .ok (.iconst 1, 1) := by decide +kernel
theorem dM_deposit_175 : decode cM_deposit 175 = .ok (.iadd, 1) := by decide +kernel
theorem dM_deposit_176 : decode cM_deposit 176 = .ok (.putfield 192, 3) := by decide +kernel
theorem dM_deposit_179 : decode cM_deposit 179 = .ok (.aload_n 0, 1) := by decide +kernel
theorem dM_deposit_180 : decode cM_deposit 180 = .ok (.getfield 46, 3) := by decide +kernel
theorem dM_deposit_183 : decode cM_deposit 183 = .ok (.bipush 16, 2) := by decide +kernel
theorem dM_deposit_185 : decode cM_deposit 185 = .ok (.iload_n 1, 1) := by decide +kernel
theorem dM_deposit_186 : decode cM_deposit 186 = .ok (.imul, 1) := by decide +kernel
theorem dM_deposit_187 : decode cM_deposit 187 = .ok (.laload, 1) := by decide +kernel
theorem dM_deposit_188 : decode cM_deposit 188 = .ok (.l2i, 1) := by decide +kernel
theorem dM_deposit_189 : decode cM_deposit 189 = .ok (.invokestatic 144, 3) := by decide +kernel
theorem dM_deposit_192 : decode cM_deposit 192 = .ok (.istore 5, 2) := by decide +kernel
theorem dM_deposit_194 : decode cM_deposit 194 = .ok (.aload_n 0, 1) := by decide +kernel
theorem dM_deposit_195 : decode cM_deposit 195 = .ok (.getfield 7, 3) := by decide +kernel
theorem dM_deposit_198 : decode cM_deposit 198 = .ok (.iload_n 2, 1) := by decide +kernel
theorem dM_deposit_199 : decode cM_deposit 199 = .ok (.dup2, 1) := by decide +kernel
theorem dM_deposit_200 : decode cM_deposit 200 = .ok (.iaload, 1) := by decide +kernel
theorem dM_deposit_201 : decode cM_deposit 201 = .ok (.iload 5, 2) := by decide +kernel
theorem dM_deposit_203 : decode cM_deposit 203 = .ok (.iadd, 1) := by decide +kernel
theorem dM_deposit_204 : decode cM_deposit 204 = .ok (.iastore, 1) := by decide +kernel
theorem dM_deposit_205 : decode cM_deposit 205 = .ok (.aload_n 0, 1) := by decide +kernel
theorem dM_deposit_206 : decode cM_deposit 206 = .ok (.getfield 13, 3) := by decide +kernel
theorem dM_deposit_209 : decode cM_deposit 209 = .ok (.iconst 1, 1) := by decide +kernel
theorem dM_deposit_210 : decode cM_deposit 210 = .ok (.dup2, 1) := by decide +kernel
theorem dM_deposit_211 : decode cM_deposit 211 = .ok (.iaload, 1) := by decide +kernel
theorem dM_deposit_212 : decode cM_deposit 212 = .ok (.iconst 1, 1) := by decide +kernel
theorem dM_deposit_213 : decode cM_deposit 213 = .ok (.iadd, 1) := by decide +kernel
theorem dM_deposit_214 : decode cM_deposit 214 = .ok (.iastore, 1) := by decide +kernel
theorem dM_deposit_215 : decode cM_deposit 215 = .ok (.iload 5, 2) := by decide +kernel
theorem dM_deposit_217 : decode cM_deposit 217 = .ok (.ireturn, 1) := by decide +kernel
abbrev yM_noted : MethodName := { cls := "BlindMintModel", name := "noted", desc := "(J)I" }
abbrev cM_noted : ByteArray := prog_12_method_31_code
theorem dM_noted_0 : decode cM_noted 0 = .ok (.iconst 0, 1) := by decide +kernel
theorem dM_noted_1 : decode cM_noted 1 = .ok (.istore_n 3, 1) := by decide +kernel
theorem dM_noted_2 : decode cM_noted 2 = .ok (.iload_n 3, 1) := by decide +kernel
theorem dM_noted_3 : decode cM_noted 3 = .ok (.aload_n 0, 1) := by decide +kernel
theorem dM_noted_4 : decode cM_noted 4 = .ok (.getfield 192, 3) := by decide +kernel
theorem dM_noted_7 : decode cM_noted 7 = .ok (.if_icmp .ge 89, 3) := by decide +kernel
theorem dM_noted_10 : decode cM_noted 10 = .ok (.aload_n 0, 1) := by decide +kernel
theorem dM_noted_11 : decode cM_noted 11 = .ok (.getfield 49, 3) := by decide +kernel
theorem dM_noted_14 : decode cM_noted 14 = .ok (.bipush 10, 2) := by decide +kernel
theorem dM_noted_16 : decode cM_noted 16 = .ok (.iload_n 3, 1) := by decide +kernel
theorem dM_noted_17 : decode cM_noted 17 = .ok (.imul, 1) := by decide +kernel
theorem dM_noted_18 : decode cM_noted 18 = .ok (.laload, 1) := by decide +kernel
theorem dM_noted_19 : decode cM_noted 19 = .ok (.lload_n 1, 1) := by decide +kernel
theorem dM_noted_20 : decode cM_noted 20 = .ok (.lcmp, 1) := by decide +kernel
theorem dM_noted_21 : decode cM_noted 21 = .ok (.ifCond .ne 7, 3) := by decide +kernel
theorem dM_noted_24 : decode cM_noted 24 = .ok (.iconst 1, 1) := by decide +kernel
theorem dM_noted_25 : decode cM_noted 25 = .ok (.goto 4, 3) := by decide +kernel
theorem dM_noted_28 : decode cM_noted 28 = .ok (.iconst 0, 1) := by decide +kernel
theorem dM_noted_29 : decode cM_noted 29 = .ok (.istore 4, 2) := by decide +kernel
theorem dM_noted_31 : decode cM_noted 31 = .ok (.iconst 0, 1) := by decide +kernel
theorem dM_noted_32 : decode cM_noted 32 = .ok (.istore 5, 2) := by decide +kernel
theorem dM_noted_34 : decode cM_noted 34 = .ok (.iload 5, 2) := by decide +kernel
theorem dM_noted_36 : decode cM_noted 36 = .ok (.iconst 4, 1) := by decide +kernel
theorem dM_noted_37 : decode cM_noted 37 = .ok (.if_icmp .ge 46, 3) := by decide +kernel
theorem dM_noted_40 : decode cM_noted 40 = .ok (.iload 4, 2) := by decide +kernel
theorem dM_noted_42 : decode cM_noted 42 = .ok (.ifCond .eq 32, 3) := by decide +kernel
theorem dM_noted_45 : decode cM_noted 45 = .ok (.aload_n 0, 1) := by decide +kernel
theorem dM_noted_46 : decode cM_noted 46 = .ok (.getfield 49, 3) := by decide +kernel
theorem dM_noted_49 : decode cM_noted 49 = .ok (.bipush 10, 2) := by decide +kernel
theorem dM_noted_51 : decode cM_noted 51 = .ok (.iload_n 3, 1) := by decide +kernel
theorem dM_noted_52 : decode cM_noted 52 = .ok (.imul, 1) := by decide +kernel
theorem dM_noted_53 : decode cM_noted 53 = .ok (.iconst 1, 1) := by decide +kernel
theorem dM_noted_54 : decode cM_noted 54 = .ok (.iadd, 1) := by decide +kernel
theorem dM_noted_55 : decode cM_noted 55 = .ok (.iload 5, 2) := by decide +kernel
theorem dM_noted_57 : decode cM_noted 57 = .ok (.iadd, 1) := by decide +kernel
theorem dM_noted_58 : decode cM_noted 58 = .ok (.laload, 1) := by decide +kernel
theorem dM_noted_59 : decode cM_noted 59 = .ok (.aload_n 0, 1) := by decide +kernel
theorem dM_noted_60 : decode cM_noted 60 = .ok (.getfield 70, 3) := by decide +kernel
theorem dM_noted_63 : decode cM_noted 63 = .ok (.iload 5, 2) := by decide +kernel
theorem dM_noted_65 : decode cM_noted 65 = .ok (.laload, 1) := by decide +kernel
theorem dM_noted_66 : decode cM_noted 66 = .ok (.lcmp, 1) := by decide +kernel
theorem dM_noted_67 : decode cM_noted 67 = .ok (.ifCond .ne 7, 3) := by decide +kernel
theorem dM_noted_70 : decode cM_noted 70 = .ok (.iconst 1, 1) := by decide +kernel
theorem dM_noted_71 : decode cM_noted 71 = .ok (.goto 4, 3) := by decide +kernel
theorem dM_noted_74 : decode cM_noted 74 = .ok (.iconst 0, 1) := by decide +kernel
theorem dM_noted_75 : decode cM_noted 75 = .ok (.istore 4, 2) := by decide +kernel
theorem dM_noted_77 : decode cM_noted 77 = .ok (.iinc 5 1, 3) := by decide +kernel
theorem dM_noted_80 : decode cM_noted 80 = .ok (.goto (-46), 3) := by decide +kernel
theorem dM_noted_83 : decode cM_noted 83 = .ok (.iload 4, 2) := by decide +kernel
theorem dM_noted_85 : decode cM_noted 85 = .ok (.ifCond .eq 5, 3) := by decide +kernel
theorem dM_noted_88 : decode cM_noted 88 = .ok (.iload_n 3, 1) := by decide +kernel
theorem dM_noted_89 : decode cM_noted 89 = .ok (.ireturn, 1) := by decide +kernel
theorem dM_noted_90 : decode cM_noted 90 = .ok (.iinc 3 1, 3) := by decide +kernel
theorem dM_noted_93 : decode cM_noted 93 = .ok (.goto (-91), 3) := by decide +kernel
theorem dM_noted_96 : decode cM_noted 96 = .ok (.iconst (-1), 1) := by decide +kernel
theorem dM_noted_97 : decode cM_noted 97 = .ok (.ireturn, 1) := by decide +kernel
abbrev yM_trace : MethodName := { cls := "BlindMintModel", name := "trace", desc := "(II)V" }
abbrev cM_trace : ByteArray := prog_12_method_32_code
theorem dM_trace_0 : decode cM_trace 0 = .ok (.aload_n 0, 1) := by decide +kernel
theorem dM_trace_1 : decode cM_trace 1 = .ok (.iload_n 1, 1) := by decide +kernel
theorem dM_trace_2 : decode cM_trace 2 = .ok (.invokevirtual 180, 3) := by decide +kernel
theorem dM_trace_5 : decode cM_trace 5 = .ok (.aload_n 0, 1) := by decide +kernel
theorem dM_trace_6 : decode cM_trace 6 = .ok (.getfield 49, 3) := by decide +kernel
theorem dM_trace_9 : decode cM_trace 9 = .ok (.bipush 10, 2) := by decide +kernel
theorem dM_trace_11 : decode cM_trace 11 = .ok (.iload_n 2, 1) := by decide +kernel
theorem dM_trace_12 : decode cM_trace 12 = .ok (.imul, 1) := by decide +kernel
theorem dM_trace_13 : decode cM_trace 13 = .ok (.iconst 5, 1) := by decide +kernel
theorem dM_trace_14 : decode cM_trace 14 = .ok (.iadd, 1) := by decide +kernel
theorem dM_trace_15 : decode cM_trace 15 = .ok (.laload, 1) := by decide +kernel
theorem dM_trace_16 : decode cM_trace 16 = .ok (.lxor, 1) := by decide +kernel
theorem dM_trace_17 : decode cM_trace 17 = .ok (.ldc2_w 195, 3) := by decide +kernel
theorem dM_trace_20 : decode cM_trace 20 = .ok (.land, 1) := by decide +kernel
theorem dM_trace_21 : decode cM_trace 21 = .ok (.lstore_n 3, 1) := by decide +kernel
theorem dM_trace_22 : decode cM_trace 22 = .ok (.aload_n 0, 1) := by decide +kernel
theorem dM_trace_23 : decode cM_trace 23 = .ok (.iconst (-1), 1) := by decide +kernel
theorem dM_trace_24 : decode cM_trace 24 = .ok (.putfield 16, 3) := by decide +kernel
theorem dM_trace_27 : decode cM_trace 27 = .ok (.iconst 3, 1) := by decide +kernel
theorem dM_trace_28 : decode cM_trace 28 = .ok (.istore 5, 2) := by decide +kernel
theorem dM_trace_30 : decode cM_trace 30 = .ok (.iload 5, 2) := by decide +kernel
theorem dM_trace_32 : decode cM_trace 32 = .ok (.ifCond .lt 87, 3) := by decide +kernel
theorem dM_trace_35 : decode cM_trace 35 = .ok (.lload_n 3, 1) := by decide +kernel
theorem dM_trace_36 : decode cM_trace 36 = .ok (.iload 5, 2) := by decide +kernel
theorem dM_trace_38 : decode cM_trace 38 = .ok (.lshr, 1) := by decide +kernel
theorem dM_trace_39 : decode cM_trace 39 = .ok (.lconst 1, 1) := by decide +kernel
theorem dM_trace_40 : decode cM_trace 40 = .ok (.land, 1) := by decide +kernel
theorem dM_trace_41 : decode cM_trace 41 = .ok (.lconst 1, 1) := by decide +kernel
theorem dM_trace_42 : decode cM_trace 42 = .ok (.lcmp, 1) := by decide +kernel
theorem dM_trace_43 : decode cM_trace 43 = .ok (.ifCond .ne 70, 3) := by decide +kernel
theorem dM_trace_46 : decode cM_trace 46 = .ok (.aload_n 0, 1) := by decide +kernel
theorem dM_trace_47 : decode cM_trace 47 = .ok (.getfield 46, 3) := by decide +kernel
theorem dM_trace_50 : decode cM_trace 50 = .ok (.bipush 16, 2) := by decide +kernel
theorem dM_trace_52 : decode cM_trace 52 = .ok (.iload_n 1, 1) := by decide +kernel
theorem dM_trace_53 : decode cM_trace 53 = .ok (.imul, 1) := by decide +kernel
theorem dM_trace_54 : decode cM_trace 54 = .ok (.iconst 4, 1) := by decide +kernel
theorem dM_trace_55 : decode cM_trace 55 = .ok (.iadd, 1) := by decide +kernel
theorem dM_trace_56 : decode cM_trace 56 = .ok (.iconst 3, 1) := by decide +kernel
theorem dM_trace_57 : decode cM_trace 57 = .ok (.iload 5, 2) := by decide +kernel
theorem dM_trace_59 : decode cM_trace 59 = .ok (.imul, 1) := by decide +kernel
theorem dM_trace_60 : decode cM_trace 60 = .ok (.iadd, 1) := by decide +kernel
theorem dM_trace_61 : decode cM_trace 61 = .ok (.laload, 1) := by decide +kernel
theorem dM_trace_62 : decode cM_trace 62 = .ok (.aload_n 0, 1) := by decide +kernel
theorem dM_trace_63 : decode cM_trace 63 = .ok (.getfield 49, 3) := by decide +kernel
theorem dM_trace_66 : decode cM_trace 66 = .ok (.bipush 10, 2) := by decide +kernel
theorem dM_trace_68 : decode cM_trace 68 = .ok (.iload_n 2, 1) := by decide +kernel
theorem dM_trace_69 : decode cM_trace 69 = .ok (.imul, 1) := by decide +kernel
theorem dM_trace_70 : decode cM_trace 70 = .ok (.bipush 6, 2) := by decide +kernel
theorem dM_trace_72 : decode cM_trace 72 = .ok (.iadd, 1) := by decide +kernel
theorem dM_trace_73 : decode cM_trace 73 = .ok (.iload 5, 2) := by decide +kernel
theorem dM_trace_75 : decode cM_trace 75 = .ok (.iadd, 1) := by decide +kernel
theorem dM_trace_76 : decode cM_trace 76 = .ok (.laload, 1) := by decide +kernel
theorem dM_trace_77 : decode cM_trace 77 = .ok (.lxor, 1) := by decide +kernel
theorem dM_trace_78 : decode cM_trace 78 = .ok (.lstore 6, 2) := by decide +kernel
theorem dM_trace_80 : decode cM_trace 80 = .ok (.aload_n 0, 1) := by decide +kernel
theorem dM_trace_81 : decode cM_trace 81 = .ok (.lload 6, 2) := by decide +kernel
theorem dM_trace_83 : decode cM_trace 83 = .ok (.ldc2_w 130, 3) := by decide +kernel
theorem dM_trace_86 : decode cM_trace 86 = .ok (.lcmp, 1) := by decide +kernel
theorem dM_trace_87 : decode cM_trace 87 = .ok (.ifCond .lt 22, 3) := by decide +kernel
theorem dM_trace_90 : decode cM_trace 90 = .ok (.lload 6, 2) := by decide +kernel
theorem dM_trace_92 : decode cM_trace 92 = .ok (.ldc2_w 197, 3) := by decide +kernel
theorem dM_trace_95 : decode cM_trace 95 = .ok (.lcmp, 1) := by decide +kernel
theorem dM_trace_96 : decode cM_trace 96 = .ok (.ifCond .gt 13, 3) := by decide +kernel
theorem dM_trace_99 : decode cM_trace 99 = .ok (.lload 6, 2) := by decide +kernel
theorem dM_trace_101 : decode cM_trace 101 = .ok (.l2i, 1) := by decide +kernel
theorem dM_trace_102 : decode cM_trace 102 = .ok (.sipush 1000, 3) := by decide +kernel
theorem dM_trace_105 : decode cM_trace 105 = .ok (.isub, 1) := by decide +kernel
theorem dM_trace_106 : decode cM_trace 106 = .ok (.goto 4, 3) := by decide +kernel
theorem dM_trace_109 : decode cM_trace 109 = .ok (.iconst (-1), 1) := by decide +kernel
theorem dM_trace_110 : decode cM_trace 110 = .ok (.putfield 16, 3) := by decide +kernel
theorem dM_trace_113 : decode cM_trace 113 = .ok (.iinc 5 (-1), 3) := by decide +kernel
theorem dM_trace_116 : decode cM_trace 116 = .ok (.goto (-86), 3) := by decide +kernel
theorem dM_trace_119 : decode cM_trace 119 = .ok (.return_, 1) := by decide +kernel
abbrev yM_traced : MethodName := { cls := "BlindMintModel", name := "traced", desc := "()I" }
abbrev cM_traced : ByteArray := prog_12_method_34_code
theorem dM_traced_0 : decode cM_traced 0 = .ok (.aload_n 0, 1) := by decide +kernel
theorem dM_traced_1 : decode cM_traced 1 = .ok (.iconst 0, 1) := by decide +kernel
theorem dM_traced_2 : decode cM_traced 2 = .ok (.putfield 73, 3) := by decide +kernel
theorem dM_traced_5 : decode cM_traced 5 = .ok (.aload_n 0, 1) := by decide +kernel
theorem dM_traced_6 : decode cM_traced 6 = .ok (.getfield 16, 3) := by decide +kernel
theorem dM_traced_9 : decode cM_traced 9 = .ok (.ireturn, 1) := by decide +kernel
abbrev yM_balance : MethodName := { cls := "BlindMintModel", name := "balance", desc := "(I)I" }
abbrev cM_balance : ByteArray := prog_12_method_35_code
theorem dM_balance_0 : decode cM_balance 0 = .ok (.aload_n 0, 1) := by decide +kernel
theorem dM_balance_1 : decode cM_balance 1 = .ok (.iconst 0, 1) := by decide +kernel
theorem dM_balance_2 : decode cM_balance 2 = .ok (.putfield 73, 3) := by decide +kernel
theorem dM_balance_5 : decode cM_balance 5 = .ok (.iload_n 1, 1) := by decide +kernel
theorem dM_balance_6 : decode cM_balance 6 = .ok (.iconst 4, 1) := by decide +kernel
theorem dM_balance_7 : decode cM_balance 7 = .ok (.invokestatic 136, 3) := by decide +kernel
theorem dM_balance_10 : decode cM_balance 10 = .ok (.ifCond .eq 12, 3) := by decide +kernel
theorem dM_balance_13 : decode cM_balance 13 = .ok (.aload_n 0, 1) := by decide +kernel
theorem dM_balance_14 : decode cM_balance 14 = .ok (.getfield 7, 3) := by decide +kernel
theorem dM_balance_17 : decode cM_balance 17 = .ok (.iload_n 1, 1) := by decide +kernel
theorem dM_balance_18 : decode cM_balance 18 = .ok (.iaload, 1) := by decide +kernel
theorem dM_balance_19 : decode cM_balance 19 = .ok (.goto 8, 3) := by decide +kernel
theorem dM_balance_22 : decode cM_balance 22 = .ok (.aload_n 0, 1) := by decide +kernel
theorem dM_balance_23 : decode cM_balance 23 = .ok (.iconst 1, 1) := by decide +kernel
theorem dM_balance_24 : decode cM_balance 24 = .ok (.invokevirtual 140, 3) := by decide +kernel
theorem dM_balance_27 : decode cM_balance 27 = .ok (.ireturn, 1) := by decide +kernel
abbrev yM_coins : MethodName := { cls := "BlindMintModel", name := "coins", desc := "(I)I" }
abbrev cM_coins : ByteArray := prog_12_method_36_code
theorem dM_coins_0 : decode cM_coins 0 = .ok (.aload_n 0, 1) := by decide +kernel
theorem dM_coins_1 : decode cM_coins 1 = .ok (.iconst 0, 1) := by decide +kernel
theorem dM_coins_2 : decode cM_coins 2 = .ok (.putfield 73, 3) := by decide +kernel
theorem dM_coins_5 : decode cM_coins 5 = .ok (.iload_n 1, 1) := by decide +kernel
theorem dM_coins_6 : decode cM_coins 6 = .ok (.iconst 4, 1) := by decide +kernel
theorem dM_coins_7 : decode cM_coins 7 = .ok (.invokestatic 136, 3) := by decide +kernel
theorem dM_coins_10 : decode cM_coins 10 = .ok (.ifCond .eq 12, 3) := by decide +kernel
theorem dM_coins_13 : decode cM_coins 13 = .ok (.aload_n 0, 1) := by decide +kernel
theorem dM_coins_14 : decode cM_coins 14 = .ok (.getfield 26, 3) := by decide +kernel
theorem dM_coins_17 : decode cM_coins 17 = .ok (.iload_n 1, 1) := by decide +kernel
theorem dM_coins_18 : decode cM_coins 18 = .ok (.iaload, 1) := by decide +kernel
theorem dM_coins_19 : decode cM_coins 19 = .ok (.goto 4, 3) := by decide +kernel
theorem dM_coins_22 : decode cM_coins 22 = .ok (.iconst (-1), 1) := by decide +kernel
theorem dM_coins_23 : decode cM_coins 23 = .ok (.ireturn, 1) := by decide +kernel
abbrev yM_coin : MethodName := { cls := "BlindMintModel", name := "coin", desc := "(II)J" }
abbrev cM_coin : ByteArray := prog_12_method_37_code
theorem dM_coin_0 : decode cM_coin 0 = .ok (.aload_n 0, 1) := by decide +kernel
theorem dM_coin_1 : decode cM_coin 1 = .ok (.iconst 0, 1) := by decide +kernel
theorem dM_coin_2 : decode cM_coin 2 = .ok (.putfield 73, 3) := by decide +kernel
theorem dM_coin_5 : decode cM_coin 5 = .ok (.aload_n 0, 1) := by decide +kernel
theorem dM_coin_6 : decode cM_coin 6 = .ok (.iload_n 1, 1) := by decide +kernel
theorem dM_coin_7 : decode cM_coin 7 = .ok (.iload_n 2, 1) := by decide +kernel
theorem dM_coin_8 : decode cM_coin 8 = .ok (.invokevirtual 168, 3) := by decide +kernel
theorem dM_coin_11 : decode cM_coin 11 = .ok (.ifCond .eq 12, 3) := by decide +kernel
theorem dM_coin_14 : decode cM_coin 14 = .ok (.aload_n 0, 1) := by decide +kernel
theorem dM_coin_15 : decode cM_coin 15 = .ok (.iconst 1, 1) := by decide +kernel
theorem dM_coin_16 : decode cM_coin 16 = .ok (.invokevirtual 140, 3) := by decide +kernel
theorem dM_coin_19 : decode cM_coin 19 = .ok (.i2l, 1) := by decide +kernel
theorem dM_coin_20 : decode cM_coin 20 = .ok (.goto 14, 3) := by decide +kernel
theorem dM_coin_23 : decode cM_coin 23 = .ok (.aload_n 0, 1) := by decide +kernel
theorem dM_coin_24 : decode cM_coin 24 = .ok (.getfield 32, 3) := by decide +kernel
theorem dM_coin_27 : decode cM_coin 27 = .ok (.bipush 8, 2) := by decide +kernel
theorem dM_coin_29 : decode cM_coin 29 = .ok (.iload_n 1, 1) := by decide +kernel
theorem dM_coin_30 : decode cM_coin 30 = .ok (.imul, 1) := by decide +kernel
theorem dM_coin_31 : decode cM_coin 31 = .ok (.iload_n 2, 1) := by decide +kernel
theorem dM_coin_32 : decode cM_coin 32 = .ok (.iadd, 1) := by decide +kernel
theorem dM_coin_33 : decode cM_coin 33 = .ok (.laload, 1) := by decide +kernel
theorem dM_coin_34 : decode cM_coin 34 = .ok (.lreturn, 1) := by decide +kernel
abbrev yM_signature : MethodName := { cls := "BlindMintModel", name := "signature", desc := "(II)J" }
abbrev cM_signature : ByteArray := prog_12_method_38_code
theorem dM_signature_0 : decode cM_signature 0 = .ok (.aload_n 0, 1) := by decide +kernel
theorem dM_signature_1 : decode cM_signature 1 = .ok (.iconst 0, 1) := by decide +kernel
theorem dM_signature_2 : decode cM_signature 2 = .ok (.putfield 73, 3) := by decide +kernel
theorem dM_signature_5 : decode cM_signature 5 = .ok (.aload_n 0, 1) := by decide +kernel
theorem dM_signature_6 : decode cM_signature 6 = .ok (.iload_n 1, 1) := by decide +kernel
theorem dM_signature_7 : decode cM_signature 7 = .ok (.iload_n 2, 1) := by decide +kernel
theorem dM_signature_8 : decode cM_signature 8 = .ok (.invokevirtual 168, 3) := by decide +kernel
theorem dM_signature_11 : decode cM_signature 11 = .ok (.ifCond .eq 12, 3) := by decide +kernel
theorem dM_signature_14 : decode cM_signature 14 = .ok (.aload_n 0, 1) := by decide +kernel
theorem dM_signature_15 : decode cM_signature 15 = .ok (.iconst 1, 1) := by decide +kernel
theorem dM_signature_16 : decode cM_signature 16 = .ok (.invokevirtual 140, 3) := by decide +kernel
theorem dM_signature_19 : decode cM_signature 19 = .ok (.i2l, 1) := by decide +kernel
theorem dM_signature_20 : decode cM_signature 20 = .ok (.goto 14, 3) := by decide +kernel
theorem dM_signature_23 : decode cM_signature 23 = .ok (.aload_n 0, 1) := by decide +kernel
theorem dM_signature_24 : decode cM_signature 24 = .ok (.getfield 36, 3) := by decide +kernel
theorem dM_signature_27 : decode cM_signature 27 = .ok (.bipush 8, 2) := by decide +kernel
theorem dM_signature_29 : decode cM_signature 29 = .ok (.iload_n 1, 1) := by decide +kernel
theorem dM_signature_30 : decode cM_signature 30 = .ok (.imul, 1) := by decide +kernel
theorem dM_signature_31 : decode cM_signature 31 = .ok (.iload_n 2, 1) := by decide +kernel
theorem dM_signature_32 : decode cM_signature 32 = .ok (.iadd, 1) := by decide +kernel
theorem dM_signature_33 : decode cM_signature 33 = .ok (.laload, 1) := by decide +kernel
theorem dM_signature_34 : decode cM_signature 34 = .ok (.lreturn, 1) := by decide +kernel
abbrev yM_blinded : MethodName := { cls := "BlindMintModel", name := "blinded", desc := "()J" }
abbrev cM_blinded : ByteArray := prog_12_method_39_code
theorem dM_blinded_0 : decode cM_blinded 0 = .ok (.aload_n 0, 1) := by decide +kernel
theorem dM_blinded_1 : decode cM_blinded 1 = .ok (.iconst 0, 1) := by decide +kernel
theorem dM_blinded_2 : decode cM_blinded 2 = .ok (.putfield 73, 3) := by decide +kernel
theorem dM_blinded_5 : decode cM_blinded 5 = .ok (.aload_n 0, 1) := by decide +kernel
theorem dM_blinded_6 : decode cM_blinded 6 = .ok (.getfield 22, 3) := by decide +kernel
theorem dM_blinded_9 : decode cM_blinded 9 = .ok (.lreturn, 1) := by decide +kernel
abbrev yM_count : MethodName := { cls := "BlindMintModel", name := "count", desc := "(I)I" }
abbrev cM_count : ByteArray := prog_12_method_40_code
theorem dM_count_0 : decode cM_count 0 = .ok (.aload_n 0, 1) := by decide +kernel
theorem dM_count_1 : decode cM_count 1 = .ok (.iconst 0, 1) := by decide +kernel
theorem dM_count_2 : decode cM_count 2 = .ok (.putfield 73, 3) := by decide +kernel
theorem dM_count_5 : decode cM_count 5 = .ok (.iload_n 1, 1) := by decide +kernel
theorem dM_count_6 : decode cM_count 6 = .ok (.iconst 4, 1) := by decide +kernel
theorem dM_count_7 : decode cM_count 7 = .ok (.invokestatic 136, 3) := by decide +kernel
theorem dM_count_10 : decode cM_count 10 = .ok (.ifCond .eq 12, 3) := by decide +kernel
theorem dM_count_13 : decode cM_count 13 = .ok (.aload_n 0, 1) := by decide +kernel
theorem dM_count_14 : decode cM_count 14 = .ok (.getfield 13, 3) := by decide +kernel
theorem dM_count_17 : decode cM_count 17 = .ok (.iload_n 1, 1) := by decide +kernel
theorem dM_count_18 : decode cM_count 18 = .ok (.iaload, 1) := by decide +kernel
theorem dM_count_19 : decode cM_count 19 = .ok (.goto 4, 3) := by decide +kernel
theorem dM_count_22 : decode cM_count 22 = .ok (.iconst (-1), 1) := by decide +kernel
theorem dM_count_23 : decode cM_count 23 = .ok (.ireturn, 1) := by decide +kernel
end
section
set_option maxHeartbeats 4000000 in
set_option maxRecDepth 100000 in
theorem bc_M_absorb (l : Launch) (D : va_G) (ct : Nat → ClassId) (base : Nat) (ad : Nat → Nat) (M : bm_Map) (sz : Nat) (h v : Int64) : Met l yM_absorb (bm_ws yM_absorb cM_absorb 6 (some .long)) { frames := 0, cells := 0, slots := 0, locals := 0 } (bm_Pre D ct base ad M sz [.long h, .long v]) (bm_Post D base (bm_Is (some (.long (bm_step h v))) M sz)) 0 0 (bm_A base) := by
  refine bm_ofB (cc := cM_absorb) (maxL := 6) (ret := (some .long)) (by decide +kernel) (Nat.le_of_ble_eq_true rfl) ?_
  intro vp ve s vm args below meth vc hx hb hr hlk hts hown hml hnm ls hl hz hM hG R Q hR hQ
  have hown : s.vm.findClass "BlindMintModel" = some vm.cls := hown
  have hK := hG.K
  have hS : va_S (bm_A base) s.heap s.heap [] := va_S.rf
  have hl : lv_has ls 6 [(0, .long h), (2, .long v)] := hl
  refine lv_lload_n hx hb dM_absorb_0 rfl (lv_at hl 0 rfl) ?_
  refine lv_lload_n hx hb dM_absorb_1 rfl (lv_at hl 1 rfl) ?_
  refine lv_lxor hx hb dM_absorb_2 ?_
  refine lv_ldc2 hx hb hown (hts _ bw_701) dM_absorb_3 ?_
  refine lv_lmul hx hb dM_absorb_6 ?_
  refine lv_ldc2 hx hb hown (hts _ bw_702) dM_absorb_7 ?_
  refine lv_ladd hx hb dM_absorb_10 ?_
  refine lv_lstore hx hb dM_absorb_11 hl (by decide) rfl (fun ls hl => ?_)
  have hl : lv_has ls 6 [(4, .long (((h ^^^ v) * 6364136223846793005) + 1442695040888963407)), (0, .long h), (2, .long v)] := hl
  refine lv_lload hx hb dM_absorb_13 (lv_at hl 0 rfl) ?_
  refine lv_lload hx hb dM_absorb_15 (lv_at hl 0 rfl) ?_
  refine lv_bipush (v := 29) hx hb dM_absorb_17 (by decide) ?_
  refine lv_lushr hx hb dM_absorb_19 rfl ?_
  refine lv_lxor hx hb dM_absorb_20 ?_
  exact bm_lret hQ hx hb hr hlk hM hS ⟨rfl, rfl, hz⟩ (Nat.le_refl _) (Nat.le_refl _) dM_absorb_21
set_option maxHeartbeats 4000000 in
set_option maxRecDepth 100000 in
theorem bc_M_low (l : Launch) (D : va_G) (ct : Nat → ClassId) (base : Nat) (ad : Nat → Nat) (M : bm_Map) (sz : Nat) (h : Int64) : Met l yM_low (bm_ws yM_low cM_low 2 (some .long)) { frames := 0, cells := 0, slots := 0, locals := 0 } (bm_Pre D ct base ad M sz [.long h]) (bm_Post D base (bm_Is (some (.long (bm_end h))) M sz)) 0 0 (bm_A base) := by
  refine bm_ofB (cc := cM_low) (maxL := 2) (ret := (some .long)) (by decide +kernel) (Nat.le_of_ble_eq_true rfl) ?_
  intro vp ve s vm args below meth vc hx hb hr hlk hts hown hml hnm ls hl hz hM hG R Q hR hQ
  have hown : s.vm.findClass "BlindMintModel" = some vm.cls := hown
  have hK := hG.K
  have hS : va_S (bm_A base) s.heap s.heap [] := va_S.rf
  have hl : lv_has ls 2 [(0, .long h)] := hl
  refine lv_lload_n hx hb dM_low_0 rfl (lv_at hl 0 rfl) ?_
  refine lv_ldc2 hx hb hown (hts _ bw_706) dM_low_1 ?_
  refine lv_land hx hb dM_low_4 ?_
  exact bm_lret hQ hx hb hr hlk hM hS ⟨rfl, rfl, hz⟩ (Nat.le_refl _) (Nat.le_refl _) dM_low_5
set_option maxHeartbeats 4000000 in
set_option maxRecDepth 100000 in
theorem bc_M_hash2 (l : Launch) (D : va_G) (ct : Nat → ClassId) (base : Nat) (ad : Nat → Nat) (M : bm_Map) (sz : Nat) (v w : Int64) : Met l yM_hash2 (bm_ws yM_hash2 cM_hash2 4 (some .long)) { frames := 1, cells := 0, slots := 0, locals := 25 } (bm_Pre D ct base ad M sz [.long v, .long w]) (bm_Post D base (bm_Is (some (.long (bm_h2 v w))) M sz)) 0 0 (bm_A base) := by
  refine bm_ofB (cc := cM_hash2) (maxL := 4) (ret := (some .long)) (by decide +kernel) (Nat.le_of_ble_eq_true rfl) ?_
  intro vp ve s vm args below meth vc hx hb hr hlk hts hown hml hnm ls hl hz hM hG R Q hR hQ
  have hown : s.vm.findClass "BlindMintModel" = some vm.cls := hown
  have hK := hG.K
  have hS : va_S (bm_A base) s.heap s.heap [] := va_S.rf
  have hl : lv_has ls 4 [(0, .long v), (2, .long w)] := hl
  refine lv_ldc2 hx hb hown (hts _ bw_697) dM_hash2_0 ?_
  refine lv_lload_n hx hb dM_hash2_3 rfl (lv_at hl 0 rfl) ?_
  refine bm_callE (va_runS (As := [.long 7, .long v]) (rest := []) ⟨hx, hb, hml, hown, hts⟩ (bc_M_absorb l D ct base ad M sz 7 v) (va_cwS 2 hts (bm_goodS bw_698 bw_699 bw_5 bw_700) rfl rfl rfl (by decide +kernel) (by rw [← hR]; exact ⟨Nat.le_of_ble_eq_true rfl, Nat.le_of_ble_eq_true rfl⟩)) (bm_preS hM hG hS hz) rfl rfl hl.1 rfl (lv_room (Nat.le_of_ble_eq_true rfl)) dM_hash2_4 (by rw [← hR]; exact ⟨Nat.le_of_ble_eq_true rfl, Nat.le_of_ble_eq_true rfl⟩)) hS (fun H locs hz hM hS => ?_)
  refine lv_lload_n hx hb dM_hash2_7 rfl (lv_at hl 1 rfl) ?_
  refine bm_callE (va_runS (As := [.long (bm_step 7 v), .long w]) (rest := []) ⟨hx, hb, hml, hown, hts⟩ (bc_M_absorb l D ct base ad M sz (bm_step 7 v) w) (va_cwS 2 hts (bm_goodS bw_698 bw_699 bw_5 bw_700) rfl rfl rfl (by decide +kernel) (by rw [← hR]; exact ⟨Nat.le_of_ble_eq_true rfl, Nat.le_of_ble_eq_true rfl⟩)) (bm_preS hM hG hS hz) rfl rfl hl.1 rfl (lv_room (Nat.le_of_ble_eq_true rfl)) dM_hash2_8 (by rw [← hR]; exact ⟨Nat.le_of_ble_eq_true rfl, Nat.le_of_ble_eq_true rfl⟩)) hS (fun H locs hz hM hS => ?_)
  refine bm_callE (va_runS (As := [.long (bm_step (bm_step 7 v) w)]) (rest := []) ⟨hx, hb, hml, hown, hts⟩ (bc_M_low l D ct base ad M sz (bm_step (bm_step 7 v) w)) (va_cwS 1 hts (bm_goodS bw_703 bw_704 bw_5 bw_705) rfl rfl rfl (by decide +kernel) (by rw [← hR]; exact ⟨Nat.le_of_ble_eq_true rfl, Nat.le_of_ble_eq_true rfl⟩)) (bm_preS hM hG hS hz) rfl rfl hl.1 rfl (lv_room (Nat.le_of_ble_eq_true rfl)) dM_hash2_11 (by rw [← hR]; exact ⟨Nat.le_of_ble_eq_true rfl, Nat.le_of_ble_eq_true rfl⟩)) hS (fun H locs hz hM hS => ?_)
  exact bm_lret hQ hx hb hr hlk hM hS ⟨rfl, rfl, hz⟩ (Nat.le_refl _) (Nat.le_refl _) dM_hash2_14
set_option maxHeartbeats 4000000 in
set_option maxRecDepth 100000 in
theorem bc_M_hash3 (l : Launch) (D : va_G) (ct : Nat → ClassId) (base : Nat) (ad : Nat → Nat) (M : bm_Map) (sz : Nat) (u v w : Int64) : Met l yM_hash3 (bm_ws yM_hash3 cM_hash3 6 (some .long)) { frames := 1, cells := 0, slots := 0, locals := 25 } (bm_Pre D ct base ad M sz [.long u, .long v, .long w]) (bm_Post D base (bm_Is (some (.long (bm_h3 u v w))) M sz)) 0 0 (bm_A base) := by
  refine bm_ofB (cc := cM_hash3) (maxL := 6) (ret := (some .long)) (by decide +kernel) (Nat.le_of_ble_eq_true rfl) ?_
  intro vp ve s vm args below meth vc hx hb hr hlk hts hown hml hnm ls hl hz hM hG R Q hR hQ
  have hown : s.vm.findClass "BlindMintModel" = some vm.cls := hown
  have hK := hG.K
  have hS : va_S (bm_A base) s.heap s.heap [] := va_S.rf
  have hl : lv_has ls 6 [(0, .long u), (2, .long v), (4, .long w)] := hl
  refine lv_ldc2 hx hb hown (hts _ bw_697) dM_hash3_0 ?_
  refine lv_lload_n hx hb dM_hash3_3 rfl (lv_at hl 0 rfl) ?_
  refine bm_callE (va_runS (As := [.long 7, .long u]) (rest := []) ⟨hx, hb, hml, hown, hts⟩ (bc_M_absorb l D ct base ad M sz 7 u) (va_cwS 2 hts (bm_goodS bw_698 bw_699 bw_5 bw_700) rfl rfl rfl (by decide +kernel) (by rw [← hR]; exact ⟨Nat.le_of_ble_eq_true rfl, Nat.le_of_ble_eq_true rfl⟩)) (bm_preS hM hG hS hz) rfl rfl hl.1 rfl (lv_room (Nat.le_of_ble_eq_true rfl)) dM_hash3_4 (by rw [← hR]; exact ⟨Nat.le_of_ble_eq_true rfl, Nat.le_of_ble_eq_true rfl⟩)) hS (fun H locs hz hM hS => ?_)
  refine lv_lload_n hx hb dM_hash3_7 rfl (lv_at hl 1 rfl) ?_
  refine bm_callE (va_runS (As := [.long (bm_step 7 u), .long v]) (rest := []) ⟨hx, hb, hml, hown, hts⟩ (bc_M_absorb l D ct base ad M sz (bm_step 7 u) v) (va_cwS 2 hts (bm_goodS bw_698 bw_699 bw_5 bw_700) rfl rfl rfl (by decide +kernel) (by rw [← hR]; exact ⟨Nat.le_of_ble_eq_true rfl, Nat.le_of_ble_eq_true rfl⟩)) (bm_preS hM hG hS hz) rfl rfl hl.1 rfl (lv_room (Nat.le_of_ble_eq_true rfl)) dM_hash3_8 (by rw [← hR]; exact ⟨Nat.le_of_ble_eq_true rfl, Nat.le_of_ble_eq_true rfl⟩)) hS (fun H locs hz hM hS => ?_)
  refine lv_lload hx hb dM_hash3_11 (lv_at hl 2 rfl) ?_
  refine bm_callE (va_runS (As := [.long (bm_step (bm_step 7 u) v), .long w]) (rest := []) ⟨hx, hb, hml, hown, hts⟩ (bc_M_absorb l D ct base ad M sz (bm_step (bm_step 7 u) v) w) (va_cwS 2 hts (bm_goodS bw_698 bw_699 bw_5 bw_700) rfl rfl rfl (by decide +kernel) (by rw [← hR]; exact ⟨Nat.le_of_ble_eq_true rfl, Nat.le_of_ble_eq_true rfl⟩)) (bm_preS hM hG hS hz) rfl rfl hl.1 rfl (lv_room (Nat.le_of_ble_eq_true rfl)) dM_hash3_13 (by rw [← hR]; exact ⟨Nat.le_of_ble_eq_true rfl, Nat.le_of_ble_eq_true rfl⟩)) hS (fun H locs hz hM hS => ?_)
  refine bm_callE (va_runS (As := [.long (bm_step (bm_step (bm_step 7 u) v) w)]) (rest := []) ⟨hx, hb, hml, hown, hts⟩ (bc_M_low l D ct base ad M sz (bm_step (bm_step (bm_step 7 u) v) w)) (va_cwS 1 hts (bm_goodS bw_703 bw_704 bw_5 bw_705) rfl rfl rfl (by decide +kernel) (by rw [← hR]; exact ⟨Nat.le_of_ble_eq_true rfl, Nat.le_of_ble_eq_true rfl⟩)) (bm_preS hM hG hS hz) rfl rfl hl.1 rfl (lv_room (Nat.le_of_ble_eq_true rfl)) dM_hash3_16 (by rw [← hR]; exact ⟨Nat.le_of_ble_eq_true rfl, Nat.le_of_ble_eq_true rfl⟩)) hS (fun H locs hz hM hS => ?_)
  exact bm_lret hQ hx hb hr hlk hM hS ⟨rfl, rfl, hz⟩ (Nat.le_refl _) (Nat.le_refl _) dM_hash3_19
set_option maxHeartbeats 4000000 in
set_option maxRecDepth 100000 in
theorem bc_H_step (l : Launch) (D : va_G) (ct : Nat → ClassId) (base : Nat) (ad : Nat → Nat) (M : bm_Map) (sz : Nat) (h v : Int64) : Met l yH_step (bm_ws yH_step cH_step 6 (some .long)) { frames := 0, cells := 0, slots := 0, locals := 0 } (bm_Pre D ct base ad M sz [.long h, .long v]) (bm_Post D base (bm_Is (some (.long (bm_step h v))) M sz)) 0 0 (bm_A base) := by
  refine bm_ofB (cc := cH_step) (maxL := 6) (ret := (some .long)) (by decide +kernel) (Nat.le_of_ble_eq_true rfl) ?_
  intro vp ve s vm args below meth vc hx hb hr hlk hts hown hml hnm ls hl hz hM hG R Q hR hQ
  have hown : s.vm.findClass "BlindMint$Hash" = some vm.cls := hown
  have hK := hG.K
  have hS : va_S (bm_A base) s.heap s.heap [] := va_S.rf
  have hl : lv_has ls 6 [(0, .long h), (2, .long v)] := hl
  refine lv_lload_n hx hb dH_step_0 rfl (lv_at hl 0 rfl) ?_
  refine lv_lload_n hx hb dH_step_1 rfl (lv_at hl 1 rfl) ?_
  refine lv_lxor hx hb dH_step_2 ?_
  refine lv_ldc2 hx hb hown (hts _ bw_179) dH_step_3 ?_
  refine lv_lmul hx hb dH_step_6 ?_
  refine lv_ldc2 hx hb hown (hts _ bw_180) dH_step_7 ?_
  refine lv_ladd hx hb dH_step_10 ?_
  refine lv_lstore hx hb dH_step_11 hl (by decide) rfl (fun ls hl => ?_)
  have hl : lv_has ls 6 [(4, .long (((h ^^^ v) * 6364136223846793005) + 1442695040888963407)), (0, .long h), (2, .long v)] := hl
  refine lv_lload hx hb dH_step_13 (lv_at hl 0 rfl) ?_
  refine lv_lload hx hb dH_step_15 (lv_at hl 0 rfl) ?_
  refine lv_bipush (v := 29) hx hb dH_step_17 (by decide) ?_
  refine lv_lushr hx hb dH_step_19 rfl ?_
  refine lv_lxor hx hb dH_step_20 ?_
  exact bm_lret hQ hx hb hr hlk hM hS ⟨rfl, rfl, hz⟩ (Nat.le_refl _) (Nat.le_refl _) dH_step_21
set_option maxHeartbeats 4000000 in
set_option maxRecDepth 100000 in
theorem bc_H_end (l : Launch) (D : va_G) (ct : Nat → ClassId) (base : Nat) (ad : Nat → Nat) (M : bm_Map) (sz : Nat) (h : Int64) : Met l yH_end (bm_ws yH_end cH_end 2 (some .long)) { frames := 0, cells := 0, slots := 0, locals := 0 } (bm_Pre D ct base ad M sz [.long h]) (bm_Post D base (bm_Is (some (.long (bm_end h))) M sz)) 0 0 (bm_A base) := by
  refine bm_ofB (cc := cH_end) (maxL := 2) (ret := (some .long)) (by decide +kernel) (Nat.le_of_ble_eq_true rfl) ?_
  intro vp ve s vm args below meth vc hx hb hr hlk hts hown hml hnm ls hl hz hM hG R Q hR hQ
  have hown : s.vm.findClass "BlindMint$Hash" = some vm.cls := hown
  have hK := hG.K
  have hS : va_S (bm_A base) s.heap s.heap [] := va_S.rf
  have hl : lv_has ls 2 [(0, .long h)] := hl
  refine lv_lload_n hx hb dH_end_0 rfl (lv_at hl 0 rfl) ?_
  refine lv_ldc2 hx hb hown (hts _ bw_184) dH_end_1 ?_
  refine lv_land hx hb dH_end_4 ?_
  exact bm_lret hQ hx hb hr hlk hM hS ⟨rfl, rfl, hz⟩ (Nat.le_refl _) (Nat.le_refl _) dH_end_5
set_option maxHeartbeats 4000000 in
set_option maxRecDepth 100000 in
theorem bc_H_of (l : Launch) (D : va_G) (ct : Nat → ClassId) (base : Nat) (ad : Nat → Nat) (M : bm_Map) (sz : Nat) (v w : Int64) : Met l yH_of (bm_ws yH_of cH_of 4 (some .long)) { frames := 1, cells := 0, slots := 0, locals := 25 } (bm_Pre D ct base ad M sz [.long v, .long w]) (bm_Post D base (bm_Is (some (.long (bm_h2 v w))) M sz)) 0 0 (bm_A base) := by
  refine bm_ofB (cc := cH_of) (maxL := 4) (ret := (some .long)) (by decide +kernel) (Nat.le_of_ble_eq_true rfl) ?_
  intro vp ve s vm args below meth vc hx hb hr hlk hts hown hml hnm ls hl hz hM hG R Q hR hQ
  have hown : s.vm.findClass "BlindMint$Hash" = some vm.cls := hown
  have hK := hG.K
  have hS : va_S (bm_A base) s.heap s.heap [] := va_S.rf
  have hl : lv_has ls 4 [(0, .long v), (2, .long w)] := hl
  refine lv_ldc2 hx hb hown (hts _ bw_191) dH_of_0 ?_
  refine lv_lload_n hx hb dH_of_3 rfl (lv_at hl 0 rfl) ?_
  refine bm_callE (va_runS (As := [.long 7, .long v]) (rest := []) ⟨hx, hb, hml, hown, hts⟩ (bc_H_step l D ct base ad M sz 7 v) (va_cwS 2 hts (bm_goodS bw_192 bw_177 bw_11 bw_178) rfl rfl rfl (by decide +kernel) (by rw [← hR]; exact ⟨Nat.le_of_ble_eq_true rfl, Nat.le_of_ble_eq_true rfl⟩)) (bm_preS hM hG hS hz) rfl rfl hl.1 rfl (lv_room (Nat.le_of_ble_eq_true rfl)) dH_of_4 (by rw [← hR]; exact ⟨Nat.le_of_ble_eq_true rfl, Nat.le_of_ble_eq_true rfl⟩)) hS (fun H locs hz hM hS => ?_)
  refine lv_lload_n hx hb dH_of_7 rfl (lv_at hl 1 rfl) ?_
  refine bm_callE (va_runS (As := [.long (bm_step 7 v), .long w]) (rest := []) ⟨hx, hb, hml, hown, hts⟩ (bc_H_step l D ct base ad M sz (bm_step 7 v) w) (va_cwS 2 hts (bm_goodS bw_192 bw_177 bw_11 bw_178) rfl rfl rfl (by decide +kernel) (by rw [← hR]; exact ⟨Nat.le_of_ble_eq_true rfl, Nat.le_of_ble_eq_true rfl⟩)) (bm_preS hM hG hS hz) rfl rfl hl.1 rfl (lv_room (Nat.le_of_ble_eq_true rfl)) dH_of_8 (by rw [← hR]; exact ⟨Nat.le_of_ble_eq_true rfl, Nat.le_of_ble_eq_true rfl⟩)) hS (fun H locs hz hM hS => ?_)
  refine bm_callE (va_runS (As := [.long (bm_step (bm_step 7 v) w)]) (rest := []) ⟨hx, hb, hml, hown, hts⟩ (bc_H_end l D ct base ad M sz (bm_step (bm_step 7 v) w)) (va_cwS 1 hts (bm_goodS bw_193 bw_182 bw_11 bw_183) rfl rfl rfl (by decide +kernel) (by rw [← hR]; exact ⟨Nat.le_of_ble_eq_true rfl, Nat.le_of_ble_eq_true rfl⟩)) (bm_preS hM hG hS hz) rfl rfl hl.1 rfl (lv_room (Nat.le_of_ble_eq_true rfl)) dH_of_11 (by rw [← hR]; exact ⟨Nat.le_of_ble_eq_true rfl, Nat.le_of_ble_eq_true rfl⟩)) hS (fun H locs hz hM hS => ?_)
  exact bm_lret hQ hx hb hr hlk hM hS ⟨rfl, rfl, hz⟩ (Nat.le_refl _) (Nat.le_refl _) dH_of_14
set_option maxHeartbeats 4000000 in
set_option maxRecDepth 100000 in
theorem bc_M_power (l : Launch) (D : va_G) (ct : Nat → ClassId) (base : Nat) (ad : Nat → Nat) (M : bm_Map) (sz : Nat) (b e q : Nat) (hb1 : b < 2 ^ 63) (he : e < 2 ^ 62) (hq1 : 1 < q) (hq2 : q < 2 ^ 31) : Met l yM_power (bm_ws yM_power cM_power 12 (some .long)) { frames := 0, cells := 0, slots := 0, locals := 0 } (bm_Pre D ct base ad M sz [.long (lN b), .long (lN e), .long (lN q)]) (bm_Post D base (bm_Is (some (.long (lN (b ^ e % q)))) M sz)) 0 0 (bm_A base) := by
  refine bm_ofB (cc := cM_power) (maxL := 12) (ret := (some .long)) (by decide +kernel) (Nat.le_of_ble_eq_true rfl) ?_
  intro vp ve s vm args below meth vc hx hb hr hlk hts hown hml hnm ls hl hz hM hG R Q hR hQ
  have hown : s.vm.findClass "BlindMintModel" = some vm.cls := hown
  have hK := hG.K
  have hS : va_S (bm_A base) s.heap s.heap [] := va_S.rf
  have hl : lv_has ls 12 [(0, .long (lN b)), (2, .long (lN e)), (4, .long (lN q))] := hl
  refine lv_lconst (v := 1) hx hb dM_power_0 (by decide) ?_
  refine lv_topl (fun t1 e_t1 => ?_)
  have e_t1 : t1 = lN (b ^ (e % 2 ^ 0) % q) := by rw [e_t1]; exact bm_pow_z hq1
  subst e_t1
  refine lv_lstore hx hb dM_power_1 hl (by decide) rfl (fun ls hl => ?_)
  have hl : lv_has ls 12 [(6, .long (lN (b ^ (e % 2 ^ 0) % q))), (0, .long (lN b)), (2, .long (lN e)), (4, .long (lN q))] := hl
  refine lv_lload_n hx hb dM_power_3 rfl (lv_at hl 1 rfl) ?_
  refine lv_lload hx hb dM_power_4 (lv_at hl 3 rfl) ?_
  refine lv_lrem hx hb dM_power_6 (bm_lN_ne (by omega) (by omega)) ?_
  refine lv_topl (fun t2 e_t2 => ?_)
  have e_t2 : t2 = lN (b ^ (2 ^ 0) % q) := by rw [e_t2]; rw [pk_lRem hb1 (by omega) (by omega), Nat.pow_zero, Nat.pow_one]
  subst e_t2
  refine lv_lstore hx hb dM_power_7 hl (by decide) rfl (fun ls hl => ?_)
  have hl : lv_has ls 12 [(8, .long (lN (b ^ (2 ^ 0) % q))), (6, .long (lN (b ^ (e % 2 ^ 0) % q))), (0, .long (lN b)), (2, .long (lN e)), (4, .long (lN q))] := hl
  refine lv_lload_n hx hb dM_power_9 rfl (lv_at hl 3 rfl) ?_
  refine lv_topl (fun t3 e_t3 => ?_)
  have e_t3 : t3 = lN (e / 2 ^ 0) := by rw [e_t3]; rw [Nat.pow_zero, Nat.div_one]
  subst e_t3
  refine lv_lstore hx hb dM_power_10 hl (by decide) rfl (fun ls hl => ?_)
  have hl : lv_has ls 12 [(10, .long (lN (e / 2 ^ 0))), (8, .long (lN (b ^ (2 ^ 0) % q))), (6, .long (lN (b ^ (e % 2 ^ 0) % q))), (0, .long (lN b)), (2, .long (lN e)), (4, .long (lN q))] := hl
  have hl : lv_has ls 12 [(6, .long (lN (b ^ (e % 2 ^ 0) % q))), (8, .long (lN (b ^ (2 ^ 0) % q))), (10, .long (lN (e / 2 ^ 0))), (4, .long (lN q))] := lv_sub hl [2, 1, 0, 5] rfl
  have loop : ∀ (n : Nat) (i : Nat) (ls : Array Slot) (H : Heap) (locs : List Loc), e < 2 ^ (i + n) → lv_has ls 12 [(6, .long (lN (b ^ (e % 2 ^ i) % q))), (8, .long (lN (b ^ (2 ^ i) % q))), (10, .long (lN (e / 2 ^ i))), (4, .long (lN q))] → H.size = sz → bm_M D base M H → va_S (bm_A base) s.heap H locs → W vp l ve R s vm args below meth vc H locs 0 0 Q (F0 vm 12 ls []) := by
    intro n
    induction n with
    | zero =>
      intro i ls H locs hi hl hz hM hS
      have hk0 : e / 2 ^ i = 0 := Nat.div_eq_of_lt (by simpa using hi)
      have hp1 : b ^ (e % 2 ^ i) % q < q := Nat.mod_lt _ (by omega)
      have hp2 : b ^ (2 ^ i) % q < q := Nat.mod_lt _ (by omega)
      have hdv : e / 2 ^ i ≤ e := Nat.div_le_self _ _
      refine lv_lload hx hb dM_power_12 (lv_at hl 2 rfl) ?_
      refine lv_lconst (v := 0) hx hb dM_power_14 (by decide) ?_
      refine W.lcmp hx hb dM_power_15 ?_
      refine lv_if_le (tgt := 62) hx hb dM_power_16 rfl (fun h16 => ?_) (fun h16 => absurd (by rw [lg_cmp_le, hk0]; decide) h16)
      have hk : e / 2 ^ i = 0 := bm_lN_le0 (by omega) ((lg_cmp_le _ _).mp h16)
      have hlt : e < 2 ^ i := (Nat.div_eq_zero_iff_lt (Nat.two_pow_pos i)).mp hk
      rw [Nat.mod_eq_of_lt hlt] at hl
      refine lv_lload hx hb dM_power_62 (lv_at hl 0 rfl) ?_
      exact bm_lret hQ hx hb hr hlk hM hS ⟨rfl, rfl, hz⟩ (Nat.le_refl _) (Nat.le_refl _) dM_power_64
    | succ n ih =>
      intro i ls H locs hi hl hz hM hS
      have hp1 : b ^ (e % 2 ^ i) % q < q := Nat.mod_lt _ (by omega)
      have hp2 : b ^ (2 ^ i) % q < q := Nat.mod_lt _ (by omega)
      have hdv : e / 2 ^ i ≤ e := Nat.div_le_self _ _
      refine lv_lload hx hb dM_power_12 (lv_at hl 2 rfl) ?_
      refine lv_lconst (v := 0) hx hb dM_power_14 (by decide) ?_
      refine W.lcmp hx hb dM_power_15 ?_
      refine lv_if_le (tgt := 62) hx hb dM_power_16 rfl (fun h16 => ?_) (fun h16 => ?_)
      · have hk : e / 2 ^ i = 0 := bm_lN_le0 (by omega) ((lg_cmp_le _ _).mp h16)
        have hlt : e < 2 ^ i := (Nat.div_eq_zero_iff_lt (Nat.two_pow_pos i)).mp hk
        rw [Nat.mod_eq_of_lt hlt] at hl
        refine lv_lload hx hb dM_power_62 (lv_at hl 0 rfl) ?_
        exact bm_lret hQ hx hb hr hlk hM hS ⟨rfl, rfl, hz⟩ (Nat.le_refl _) (Nat.le_refl _) dM_power_64
      · refine lv_lload hx hb dM_power_19 (lv_at hl 2 rfl) ?_
        refine lv_lconst (v := 1) hx hb dM_power_21 (by decide) ?_
        refine lv_land hx hb dM_power_22 ?_
        refine lv_topl (fun t4 e_t4 => ?_)
        have e_t4 : t4 = lN (e / 2 ^ i % 2) := by rw [e_t4]; exact wb_a1 (by omega)
        subst e_t4
        refine lv_lconst (v := 1) hx hb dM_power_23 (by decide) ?_
        refine W.lcmp hx hb dM_power_24 ?_
        refine lv_if_ne (tgt := 39) hx hb dM_power_25 rfl (fun h25 => ?_) (fun h25 => ?_)
        · rw [lg_cmp_eq] at h25
          refine lv_lload hx hb dM_power_39 (lv_at hl 0 rfl) ?_
          refine lv_topl (fun t5 e_t5 => ?_)
          have e_t5 : t5 = lN (b ^ (e % 2 ^ (i + 1)) % q) := by rw [e_t5]; rw [← bm_pow_0 (bm_lN_0 h25)]
          subst e_t5
          refine lv_lstore hx hb dM_power_41 hl (by decide) rfl (fun ls hl => ?_)
          have hl : lv_has ls 12 [(6, .long (lN (b ^ (e % 2 ^ (i + 1)) % q))), (8, .long (lN (b ^ (2 ^ i) % q))), (10, .long (lN (e / 2 ^ i))), (4, .long (lN q))] := hl
          refine lv_lload hx hb dM_power_43 (lv_at hl 1 rfl) ?_
          refine lv_lload hx hb dM_power_45 (lv_at hl 1 rfl) ?_
          refine lv_lmul hx hb dM_power_47 ?_
          refine lv_lload hx hb dM_power_48 (lv_at hl 3 rfl) ?_
          refine lv_lrem hx hb dM_power_50 (bm_lN_ne (by omega) (by omega)) ?_
          refine lv_topl (fun t6 e_t6 => ?_)
          have e_t6 : t6 = lN (b ^ (2 ^ (i + 1)) % q) := by rw [e_t6]; rw [lN_mul, pk_lRem (bm_mul_lt hp2 hp2 hq2) (by omega) (by omega), bm_pow_s]
          subst e_t6
          refine lv_lstore hx hb dM_power_51 hl (by decide) rfl (fun ls hl => ?_)
          have hl : lv_has ls 12 [(8, .long (lN (b ^ (2 ^ (i + 1)) % q))), (6, .long (lN (b ^ (e % 2 ^ (i + 1)) % q))), (10, .long (lN (e / 2 ^ i))), (4, .long (lN q))] := hl
          refine lv_lload hx hb dM_power_53 (lv_at hl 2 rfl) ?_
          refine lv_iconst (v := 1) hx hb dM_power_55 (by decide) ?_
          refine lv_lshr hx hb dM_power_56 rfl ?_
          refine lv_topl (fun t7 e_t7 => ?_)
          have e_t7 : t7 = lN (e / 2 ^ (i + 1)) := by rw [e_t7]; exact bm_half he
          subst e_t7
          refine lv_lstore hx hb dM_power_57 hl (by decide) rfl (fun ls hl => ?_)
          have hl : lv_has ls 12 [(10, .long (lN (e / 2 ^ (i + 1)))), (8, .long (lN (b ^ (2 ^ (i + 1)) % q))), (6, .long (lN (b ^ (e % 2 ^ (i + 1)) % q))), (4, .long (lN q))] := hl
          refine lv_goto (tgt := 12) hx hb dM_power_59 rfl ?_
          have hl : lv_has ls 12 [(6, .long (lN (b ^ (e % 2 ^ (i + 1)) % q))), (8, .long (lN (b ^ (2 ^ (i + 1)) % q))), (10, .long (lN (e / 2 ^ (i + 1)))), (4, .long (lN q))] := lv_sub hl [2, 1, 0, 3] rfl
          exact ih (i + 1) ls _ _ (by rw [show i + 1 + n = i + (n + 1) from by omega]; exact hi) hl hz hM hS
        · rw [lg_cmp_eq] at h25
          refine lv_lload hx hb dM_power_28 (lv_at hl 0 rfl) ?_
          refine lv_lload hx hb dM_power_30 (lv_at hl 1 rfl) ?_
          refine lv_lmul hx hb dM_power_32 ?_
          refine lv_lload hx hb dM_power_33 (lv_at hl 3 rfl) ?_
          refine lv_lrem hx hb dM_power_35 (bm_lN_ne (by omega) (by omega)) ?_
          refine lv_topl (fun t8 e_t8 => ?_)
          have e_t8 : t8 = lN (b ^ (e % 2 ^ (i + 1)) % q) := by rw [e_t8]; rw [lN_mul, pk_lRem (bm_mul_lt hp1 hp2 hq2) (by omega) (by omega), bm_pow_1 (bm_lN_1 (by omega) h25)]
          subst e_t8
          refine lv_goto (tgt := 41) hx hb dM_power_36 rfl ?_
          refine lv_lstore hx hb dM_power_41 hl (by decide) rfl (fun ls hl => ?_)
          have hl : lv_has ls 12 [(6, .long (lN (b ^ (e % 2 ^ (i + 1)) % q))), (8, .long (lN (b ^ (2 ^ i) % q))), (10, .long (lN (e / 2 ^ i))), (4, .long (lN q))] := hl
          refine lv_lload hx hb dM_power_43 (lv_at hl 1 rfl) ?_
          refine lv_lload hx hb dM_power_45 (lv_at hl 1 rfl) ?_
          refine lv_lmul hx hb dM_power_47 ?_
          refine lv_lload hx hb dM_power_48 (lv_at hl 3 rfl) ?_
          refine lv_lrem hx hb dM_power_50 (bm_lN_ne (by omega) (by omega)) ?_
          refine lv_topl (fun t9 e_t9 => ?_)
          have e_t9 : t9 = lN (b ^ (2 ^ (i + 1)) % q) := by rw [e_t9]; rw [lN_mul, pk_lRem (bm_mul_lt hp2 hp2 hq2) (by omega) (by omega), bm_pow_s]
          subst e_t9
          refine lv_lstore hx hb dM_power_51 hl (by decide) rfl (fun ls hl => ?_)
          have hl : lv_has ls 12 [(8, .long (lN (b ^ (2 ^ (i + 1)) % q))), (6, .long (lN (b ^ (e % 2 ^ (i + 1)) % q))), (10, .long (lN (e / 2 ^ i))), (4, .long (lN q))] := hl
          refine lv_lload hx hb dM_power_53 (lv_at hl 2 rfl) ?_
          refine lv_iconst (v := 1) hx hb dM_power_55 (by decide) ?_
          refine lv_lshr hx hb dM_power_56 rfl ?_
          refine lv_topl (fun t10 e_t10 => ?_)
          have e_t10 : t10 = lN (e / 2 ^ (i + 1)) := by rw [e_t10]; exact bm_half he
          subst e_t10
          refine lv_lstore hx hb dM_power_57 hl (by decide) rfl (fun ls hl => ?_)
          have hl : lv_has ls 12 [(10, .long (lN (e / 2 ^ (i + 1)))), (8, .long (lN (b ^ (2 ^ (i + 1)) % q))), (6, .long (lN (b ^ (e % 2 ^ (i + 1)) % q))), (4, .long (lN q))] := hl
          refine lv_goto (tgt := 12) hx hb dM_power_59 rfl ?_
          have hl : lv_has ls 12 [(6, .long (lN (b ^ (e % 2 ^ (i + 1)) % q))), (8, .long (lN (b ^ (2 ^ (i + 1)) % q))), (10, .long (lN (e / 2 ^ (i + 1)))), (4, .long (lN q))] := lv_sub hl [2, 1, 0, 3] rfl
          exact ih (i + 1) ls _ _ (by rw [show i + 1 + n = i + (n + 1) from by omega]; exact hi) hl hz hM hS
  exact loop 62 0 ls _ _ (by simpa using he) hl hz hM hS
end
section
/-! rows on the constants; small tests -/
section BME
variable {p : Program} {l : Launch} {e : Env} {R : Room} {s : State} {m : MethodId} {args : Array Value} {below : List Frame} {meth : Method} {c : Code} {H : Heap} {locs : List Loc} {cells slots : Nat} {Q : State → Prop}
variable {cc : ByteArray} {pc : Nat} {ls : Array Slot} {rest : List Value} {A : Nat → Prop} {H0 : Heap} {ad : Nat → Nat}
theorem bm_tq (hexec : p.tables.exec = Jvm.exec) (hb : c.code = cc) {C : String} {t N : Nat} (hT : va_T (.object C) t N (fun j => .ref (ad j)) A s s.heap) (hS : va_S A s.heap H locs) {i : Int32} (k : Nat) (hi : bm_ix i k) (hk : k < N) (hdg : decode cc pc = .ok (.aaload, 1))
    (kk : W p l e R s m args below meth c H locs cells slots Q (F0 m (pc + 1) ls (.ref (ad k) :: rest))) : W p l e R s m args below meth c H locs cells slots Q (F0 m pc ls (.int i :: .ref t :: rest)) := by
  have hin := bm_ix_in hi hk
  obtain ⟨h0, rfl⟩ := hi
  exact vb_tq hexec hb hT hS hin rfl hdg kk
end BME
theorem bm_preE {D : va_G} {ct : Nat → ClassId} {base : Nat} {ad : Nat → Nat} {M : bm_Map} {sz i : Nat} {As : List Value} {s : State} {H : Heap} {locs : List Loc} (hM : bm_M D base M H) (hG : bm_G D ct base ad s) (hS : va_S (bm_A base) s.heap H locs) (hz : H.size = sz) (hi : i < 3) : PreV s H "BlindMint$Denomination" (ad i) (bm_Pre D ct base ad M sz (.ref (ad i) :: As)) As :=
  ⟨bm_blind, by
    obtain ⟨cell, h1, h2, h3, -⟩ := (hG.2.2.2.2.2.1 i hi).kept hS.2.1
    exact ⟨cell, h1, h2, h3⟩, fun U hU hW => ⟨rfl, by rw [hU]; exact hz, by rw [hU]; exact hM, hG.go hS hU hW⟩⟩
/-- 1 where v lies in 0 .. n - 1 -/
def bm_bl (v n : Int32) : Int32 := if v < 0 ∨ n ≤ v then 0 else 1
def bm_bL (v n : Int64) : Int32 := if v < 0 ∨ n ≤ v then 0 else 1
theorem bm_bl_z {v n : Int32} (h : v < 0 ∨ n ≤ v) : bm_bl v n = 0 := if_pos h
theorem bm_bl_o {v n : Int32} (h : ¬ (v < 0 ∨ n ≤ v)) : bm_bl v n = 1 := if_neg h
theorem bm_bL_z {v n : Int64} (h : v < 0 ∨ n ≤ v) : bm_bL v n = 0 := if_pos h
theorem bm_bL_o {v n : Int64} (h : ¬ (v < 0 ∨ n ≤ v)) : bm_bL v n = 1 := if_neg h
theorem bm_bl_in {v : Int32} {N : Nat} (hN : N < 2 ^ 31) (h : ¬ bm_bl v (nI N) = 0) : ∃ j, j < N ∧ v = nI j := by
  rcases pk_ix v hN with h1 | h1 | h1
  · exact absurd (bm_bl_z (Or.inl h1)) h
  · exact absurd (bm_bl_z (Or.inr h1)) h
  · exact h1
theorem bm_bl_nI {j N : Nat} (h : j < N) (hN : N < 2 ^ 31) : bm_bl (nI j) (nI N) = 1 := bm_bl_o (fun q => q.elim (nI_pos (by omega)) (nI_ge h hN))
theorem bm_bL_in {v : Int64} {N : Nat} (hN : N < 2 ^ 31) (h : ¬ bm_bL v (lN N) = 0) : ∃ j, j < N ∧ v = lN j := by
  have h1 : ¬ (v < 0 ∨ lN N ≤ v) := fun q => h (bm_bL_z q)
  obtain ⟨k, hk, rfl⟩ := pk_lOf (fun q => h1 (Or.inl q))
  refine ⟨k, ?_, rfl⟩
  have h2 : ¬ lN N ≤ lN k := fun q => h1 (Or.inr q)
  rw [pk_lLE (by omega) hk] at h2
  omega
theorem bm_inv {p q : Nat} (hq : bm_Pr q) (hp : p % q ≠ 0) : p * (p ^ (q - 2) % q) % q = 1 := by
  have h1 := hq.1
  rw [Nat.mul_mod_mod, ← Nat.pow_succ', show (q - 2).succ = q - 1 by omega]
  exact bm_fermat hq hp
theorem bm_prP : ∀ d, bm_Pr (bm_p d)
  | 0 => bm_pr_p0
  | 1 => bm_pr_p1
  | _ + 2 => bm_pr_p2
theorem bm_prQ : ∀ d, bm_Pr (bm_q d)
  | 0 => bm_pr_q0
  | 1 => bm_pr_q1
  | _ + 2 => bm_pr_q2
theorem bm_pb2 : 2 ^ 29 < bm_p 2 ∧ bm_p 2 < 2 ^ 30 := ⟨by decide, by decide⟩
theorem bm_pb (d : Nat) : 2 ^ 29 < bm_p d ∧ bm_p d < 2 ^ 30 := by
  match d with
  | 0 => exact ⟨by decide, by decide⟩
  | 1 => exact ⟨by decide, by decide⟩
  | _ + 2 => exact bm_pb2
theorem bm_qb2 : 2 ^ 29 < bm_q 2 ∧ bm_q 2 < 2 ^ 30 := ⟨by decide, by decide⟩
theorem bm_qb (d : Nat) : 2 ^ 29 < bm_q d ∧ bm_q d < 2 ^ 30 := by
  match d with
  | 0 => exact ⟨by decide, by decide⟩
  | 1 => exact ⟨by decide, by decide⟩
  | _ + 2 => exact bm_qb2
/-- the k of the root's exponent -/
def bm_kp : Nat → Nat
  | 0 => 3
  | 1 => 8
  | _ => 4
def bm_kq : Nat → Nat
  | 0 => 13
  | 1 => 16
  | _ => 5
def bm_u (k p : Nat) : Nat := (1 + k * (p - 1)) / 17
theorem bm_up_ok2 : 17 * bm_u (bm_kp 2) (bm_p 2) = 1 + bm_kp 2 * (bm_p 2 - 1) ∧ 1 ≤ bm_kp 2 ∧ bm_kp 2 < 17 ∧ bm_u (bm_kp 2) (bm_p 2) < 2 ^ 30 ∧ (1 + bm_kp 2 * (bm_p 2 - 1)) % 17 = 0 ∧ ∀ k, k < bm_kp 2 → (1 + k * (bm_p 2 - 1)) % 17 ≠ 0 := ⟨by decide, by decide, by decide, by decide, by decide, by decide⟩
theorem bm_up_ok (d : Nat) : 17 * bm_u (bm_kp d) (bm_p d) = 1 + bm_kp d * (bm_p d - 1) ∧ 1 ≤ bm_kp d ∧ bm_kp d < 17 ∧ bm_u (bm_kp d) (bm_p d) < 2 ^ 30 ∧ (1 + bm_kp d * (bm_p d - 1)) % 17 = 0 ∧ ∀ k, k < bm_kp d → (1 + k * (bm_p d - 1)) % 17 ≠ 0 := by
  match d with
  | 0 => exact ⟨by decide, by decide, by decide, by decide, by decide, by decide⟩
  | 1 => exact ⟨by decide, by decide, by decide, by decide, by decide, by decide⟩
  | _ + 2 => exact bm_up_ok2
theorem bm_uq_ok2 : 17 * bm_u (bm_kq 2) (bm_q 2) = 1 + bm_kq 2 * (bm_q 2 - 1) ∧ 1 ≤ bm_kq 2 ∧ bm_kq 2 < 17 ∧ bm_u (bm_kq 2) (bm_q 2) < 2 ^ 30 ∧ (1 + bm_kq 2 * (bm_q 2 - 1)) % 17 = 0 ∧ ∀ k, k < bm_kq 2 → (1 + k * (bm_q 2 - 1)) % 17 ≠ 0 := ⟨by decide, by decide, by decide, by decide, by decide, by decide⟩
theorem bm_uq_ok (d : Nat) : 17 * bm_u (bm_kq d) (bm_q d) = 1 + bm_kq d * (bm_q d - 1) ∧ 1 ≤ bm_kq d ∧ bm_kq d < 17 ∧ bm_u (bm_kq d) (bm_q d) < 2 ^ 30 ∧ (1 + bm_kq d * (bm_q d - 1)) % 17 = 0 ∧ ∀ k, k < bm_kq d → (1 + k * (bm_q d - 1)) % 17 ≠ 0 := by
  match d with
  | 0 => exact ⟨by decide, by decide, by decide, by decide, by decide, by decide⟩
  | 1 => exact ⟨by decide, by decide, by decide, by decide, by decide, by decide⟩
  | _ + 2 => exact bm_uq_ok2
/-- the number with these remainders, for the denomination d -/
def bm_jd (d x y : Nat) : Nat := bm_jn (bm_p d) (bm_q d) (bm_p d ^ (bm_q d - 2) % bm_q d) x y
theorem bm_pq2 : bm_p 2 % bm_q 2 ≠ 0 := by decide
theorem bm_pq (d : Nat) : bm_p d % bm_q d ≠ 0 := by
  match d with
  | 0 => decide
  | 1 => decide
  | _ + 2 => exact bm_pq2
theorem bm_jd_p {d x y : Nat} (hx : x < bm_p d) : bm_jd d x y % bm_p d = x := bm_jn_p hx
theorem bm_jd_q {d x y : Nat} (hy : y < bm_q d) : bm_jd d x y % bm_q d = y := bm_jn_q (by have := bm_qb d; omega) (bm_inv (bm_prQ d) (bm_pq d)) hy
theorem bm_jd_lt {d x y : Nat} (hx : x < bm_p d) : bm_jd d x y < bm_p d * bm_q d := bm_jn_lt (by have := bm_qb d; omega) hx
theorem bm_pq_lt (d : Nat) : bm_p d * bm_q d < 2 ^ 60 := by
  have h1 := bm_pb d
  have h2 := bm_qb d
  have h3 : bm_p d * bm_q d ≤ (2 ^ 30 - 1) * (2 ^ 30 - 1) := Nat.mul_le_mul (by omega) (by omega)
  have h4 : ((2 : Nat) ^ 30 - 1) * (2 ^ 30 - 1) < 2 ^ 60 := by decide
  omega
/-- the least of r, r + 1, r + 2 that neither prime divides -/
def bm_bf (d r : Nat) : Nat := if r % bm_p d = 0 ∨ r % bm_q d = 0 then (if (r + 1) % bm_p d = 0 ∨ (r + 1) % bm_q d = 0 then r + 2 else r + 1) else r
theorem bm_nx {p r : Nat} (hp : 2 < p) (h : r % p = 0) : (r + 1) % p ≠ 0 ∧ (r + 2) % p ≠ 0 := by
  rw [Nat.add_mod, h, Nat.zero_add, Nat.mod_mod, Nat.mod_eq_of_lt (show 1 < p by omega), Nat.add_mod r 2, h, Nat.zero_add, Nat.mod_mod, Nat.mod_eq_of_lt hp]
  exact ⟨by decide, by decide⟩
theorem bm_bf_ok (d r : Nat) : (bm_bf d r) % bm_p d ≠ 0 ∧ (bm_bf d r) % bm_q d ≠ 0 ∧ r ≤ bm_bf d r ∧ bm_bf d r ≤ r + 2 := by
  have hp := bm_pb d
  have hq := bm_qb d
  have hp2 : 2 < bm_p d := by omega
  have hq2 : 2 < bm_q d := by omega
  unfold bm_bf
  generalize bm_p d = p at hp2 ⊢
  generalize bm_q d = q at hq2 ⊢
  by_cases h0 : r % p = 0 ∨ r % q = 0
  · rw [if_pos h0]
    by_cases h1 : (r + 1) % p = 0 ∨ (r + 1) % q = 0
    · rw [if_pos h1]
      refine ⟨fun z => ?_, fun z => ?_, by omega, by omega⟩
      · have a0 : ¬ r % p = 0 := fun y => (bm_nx hp2 y).2 z
        have a1 : ¬ (r + 1) % p = 0 := fun y => (bm_nx hp2 y).1 z
        exact (bm_nx hq2 (h0.resolve_left a0)).1 (h1.resolve_left a1)
      · have a0 : ¬ r % q = 0 := fun y => (bm_nx hq2 y).2 z
        have a1 : ¬ (r + 1) % q = 0 := fun y => (bm_nx hq2 y).1 z
        exact (bm_nx hp2 (h0.resolve_right a0)).1 (h1.resolve_right a1)
    · rw [if_neg h1]
      exact ⟨fun z => h1 (Or.inl z), fun z => h1 (Or.inr z), by omega, by omega⟩
  · rw [if_neg h0]
    exact ⟨fun z => h0 (Or.inl z), fun z => h0 (Or.inr z), by omega, by omega⟩
/-- the mint's blinded number, and the signature -/
def bm_bn (d m r : Nat) : Nat := bm_jd d (m * r ^ 17 % bm_p d) (m * r ^ 17 % bm_q d)
def bm_sg (d m : Nat) : Nat := bm_jd d (m ^ bm_u (bm_kp d) (bm_p d) % bm_p d) (m ^ bm_u (bm_kq d) (bm_q d) % bm_q d)
/-- what the class makes of the blinded number's root is the number's own root -/
theorem bm_sg_ok {d m r : Nat} (hp : r % bm_p d ≠ 0) (hq : r % bm_q d ≠ 0) : bm_jd d (bm_sg d (bm_bn d m r) % bm_p d * (r ^ (bm_p d - 2) % bm_p d) % bm_p d) (bm_sg d (bm_bn d m r) % bm_q d * (r ^ (bm_q d - 2) % bm_q d) % bm_q d) = bm_sg d m := by
  have h1 := bm_pb d
  have h2 := bm_qb d
  have a1 : m * r ^ 17 % bm_p d < bm_p d := Nat.mod_lt _ (by omega)
  have a2 : m * r ^ 17 % bm_q d < bm_q d := Nat.mod_lt _ (by omega)
  have e1 : bm_sg d (bm_bn d m r) % bm_p d = bm_bn d m r ^ bm_u (bm_kp d) (bm_p d) % bm_p d := bm_jd_p (Nat.mod_lt _ (by omega))
  have e2 : bm_sg d (bm_bn d m r) % bm_q d = bm_bn d m r ^ bm_u (bm_kq d) (bm_q d) % bm_q d := bm_jd_q (Nat.mod_lt _ (by omega))
  have f1 : bm_bn d m r % bm_p d = m * r ^ 17 % bm_p d := bm_jd_p a1
  have f2 : bm_bn d m r % bm_q d = m * r ^ 17 % bm_q d := bm_jd_q a2
  rw [e1, e2, bm_unb (bm_prP d) hp (bm_up_ok d).1 f1, bm_unb (bm_prQ d) hq (bm_uq_ok d).1 f2]
  rfl
end
section
theorem bm_if1 {c : Prop} [Decidable c] (h : ¬ (if c then (1 : Int32) else 0) = 0) : c := by
  by_cases hc : c
  · exact hc
  · rw [if_neg hc] at h
    exact absurd rfl h
theorem bm_if0 {k : Nat} (h : (if k % 2 = 1 then (1 : Int32) else 0) = 0) : k % 2 = 0 := by
  by_cases hc : k % 2 = 1
  · rw [if_pos hc] at h
    exact absurd h (by decide)
  · omega
end
section
set_option maxHeartbeats 4000000 in
set_option maxRecDepth 100000 in
theorem bc_M_below (l : Launch) (D : va_G) (ct : Nat → ClassId) (base : Nat) (ad : Nat → Nat) (M : bm_Map) (sz : Nat) (v n : Int32) : Met l yM_below (bm_ws yM_below cM_below 2 (some .boolean)) { frames := 0, cells := 0, slots := 0, locals := 0 } (bm_Pre D ct base ad M sz [.int v, .int n]) (bm_Post D base (bm_Is (some (.int (bm_bl v n))) M sz)) 0 0 (bm_A base) := by
  refine bm_ofB (cc := cM_below) (maxL := 2) (ret := (some .boolean)) (by decide +kernel) (Nat.le_of_ble_eq_true rfl) ?_
  intro vp ve s vm args below meth vc hx hb hr hlk hts hown hml hnm ls hl hz hM hG R Q hR hQ
  have hown : s.vm.findClass "BlindMintModel" = some vm.cls := hown
  have hK := hG.K
  have hS : va_S (bm_A base) s.heap s.heap [] := va_S.rf
  have hl : lv_has ls 2 [(0, .int v), (1, .int n)] := hl
  refine lv_iload_n hx hb dM_below_0 rfl (lv_at hl 0 rfl) ?_
  refine lv_if_lt (tgt := 13) hx hb dM_below_1 rfl (fun h1 => ?_) (fun h1 => ?_)
  · refine lv_iconst (v := 0) hx hb dM_below_13 (by decide) ?_
    exact bm_zret hQ hx hb hr hlk (by decide) hM hS ⟨by first | exact congrArg (fun z => some (Value.int z)) (bm_bl_z (Or.inl h1) : bm_bl v n = 0).symm | exact congrArg (fun z => some (Value.int z)) (bm_bl_z (Or.inr h6) : bm_bl v n = 0).symm, rfl, hz⟩ (Nat.le_refl _) (Nat.le_refl _) dM_below_14
  · refine lv_iload_n hx hb dM_below_4 rfl (lv_at hl 0 rfl) ?_
    refine lv_iload_n hx hb dM_below_5 rfl (lv_at hl 1 rfl) ?_
    refine lv_icmp_ge (tgt := 13) hx hb dM_below_6 rfl (fun h6 => ?_) (fun h6 => ?_)
    · refine lv_iconst (v := 0) hx hb dM_below_13 (by decide) ?_
      exact bm_zret hQ hx hb hr hlk (by decide) hM hS ⟨by first | exact congrArg (fun z => some (Value.int z)) (bm_bl_z (Or.inl h1) : bm_bl v n = 0).symm | exact congrArg (fun z => some (Value.int z)) (bm_bl_z (Or.inr h6) : bm_bl v n = 0).symm, rfl, hz⟩ (Nat.le_refl _) (Nat.le_refl _) dM_below_14
    · refine lv_iconst (v := 1) hx hb dM_below_9 (by decide) ?_
      refine lv_goto (tgt := 14) hx hb dM_below_10 rfl ?_
      exact bm_zret hQ hx hb hr hlk (by decide) hM hS ⟨by first | exact congrArg (fun z => some (Value.int z)) (bm_bl_o (fun q => q.elim h1 h6) : bm_bl v n = 1).symm, rfl, hz⟩ (Nat.le_refl _) (Nat.le_refl _) dM_below_14
set_option maxHeartbeats 4000000 in
set_option maxRecDepth 100000 in
theorem bc_B_isAccount (l : Launch) (D : va_G) (ct : Nat → ClassId) (base : Nat) (ad : Nat → Nat) (M : bm_Map) (sz : Nat) (v : Int32) : Met l yB_isAccount (bm_ws yB_isAccount cB_isAccount 1 (some .boolean)) { frames := 0, cells := 0, slots := 0, locals := 0 } (bm_Pre D ct base ad M sz [.int v]) (bm_Post D base (bm_Is (some (.int (bm_bl v 4))) M sz)) 0 0 (bm_A base) := by
  refine bm_ofB (cc := cB_isAccount) (maxL := 1) (ret := (some .boolean)) (by decide +kernel) (Nat.le_of_ble_eq_true rfl) ?_
  intro vp ve s vm args below meth vc hx hb hr hlk hts hown hml hnm ls hl hz hM hG R Q hR hQ
  have hown : s.vm.findClass "BlindMint" = some vm.cls := hown
  have hK := hG.K
  have hS : va_S (bm_A base) s.heap s.heap [] := va_S.rf
  have hl : lv_has ls 1 [(0, .int v)] := hl
  refine lv_iload_n hx hb dB_isAccount_0 rfl (lv_at hl 0 rfl) ?_
  refine lv_if_lt (tgt := 13) hx hb dB_isAccount_1 rfl (fun h1 => ?_) (fun h1 => ?_)
  · refine lv_iconst (v := 0) hx hb dB_isAccount_13 (by decide) ?_
    exact bm_zret hQ hx hb hr hlk (by decide) hM hS ⟨by first | exact congrArg (fun z => some (Value.int z)) (bm_bl_z (Or.inl h1) : bm_bl v 4 = 0).symm | exact congrArg (fun z => some (Value.int z)) (bm_bl_z (Or.inr h6) : bm_bl v 4 = 0).symm, rfl, hz⟩ (Nat.le_refl _) (Nat.le_refl _) dB_isAccount_14
  · refine lv_iload_n hx hb dB_isAccount_4 rfl (lv_at hl 0 rfl) ?_
    refine lv_iconst (v := 4) hx hb dB_isAccount_5 (by decide) ?_
    refine lv_icmp_ge (tgt := 13) hx hb dB_isAccount_6 rfl (fun h6 => ?_) (fun h6 => ?_)
    · refine lv_iconst (v := 0) hx hb dB_isAccount_13 (by decide) ?_
      exact bm_zret hQ hx hb hr hlk (by decide) hM hS ⟨by first | exact congrArg (fun z => some (Value.int z)) (bm_bl_z (Or.inl h1) : bm_bl v 4 = 0).symm | exact congrArg (fun z => some (Value.int z)) (bm_bl_z (Or.inr h6) : bm_bl v 4 = 0).symm, rfl, hz⟩ (Nat.le_refl _) (Nat.le_refl _) dB_isAccount_14
    · refine lv_iconst (v := 1) hx hb dB_isAccount_9 (by decide) ?_
      refine lv_goto (tgt := 14) hx hb dB_isAccount_10 rfl ?_
      exact bm_zret hQ hx hb hr hlk (by decide) hM hS ⟨by first | exact congrArg (fun z => some (Value.int z)) (bm_bl_o (fun q => q.elim h1 h6) : bm_bl v 4 = 1).symm, rfl, hz⟩ (Nat.le_refl _) (Nat.le_refl _) dB_isAccount_14
set_option maxHeartbeats 4000000 in
set_option maxRecDepth 100000 in
theorem bc_P_hasNumber (l : Launch) (D : va_G) (ct : Nat → ClassId) (base : Nat) (ad : Nat → Nat) (M : bm_Map) (sz : Nat) (v : Int32) : Met l yP_hasNumber (bm_ws yP_hasNumber cP_hasNumber 1 (some .boolean)) { frames := 0, cells := 0, slots := 0, locals := 0 } (bm_Pre D ct base ad M sz [.int v]) (bm_Post D base (bm_Is (some (.int (bm_bl v 16))) M sz)) 0 0 (bm_A base) := by
  refine bm_ofB (cc := cP_hasNumber) (maxL := 1) (ret := (some .boolean)) (by decide +kernel) (Nat.le_of_ble_eq_true rfl) ?_
  intro vp ve s vm args below meth vc hx hb hr hlk hts hown hml hnm ls hl hz hM hG R Q hR hQ
  have hown : s.vm.findClass "BlindMint$Payment" = some vm.cls := hown
  have hK := hG.K
  have hS : va_S (bm_A base) s.heap s.heap [] := va_S.rf
  have hl : lv_has ls 1 [(0, .int v)] := hl
  refine lv_iload_n hx hb dP_hasNumber_0 rfl (lv_at hl 0 rfl) ?_
  refine lv_if_lt (tgt := 14) hx hb dP_hasNumber_1 rfl (fun h1 => ?_) (fun h1 => ?_)
  · refine lv_iconst (v := 0) hx hb dP_hasNumber_14 (by decide) ?_
    exact bm_zret hQ hx hb hr hlk (by decide) hM hS ⟨by first | exact congrArg (fun z => some (Value.int z)) (bm_bl_z (Or.inl h1) : bm_bl v 16 = 0).symm | exact congrArg (fun z => some (Value.int z)) (bm_bl_z (Or.inr h7) : bm_bl v 16 = 0).symm, rfl, hz⟩ (Nat.le_refl _) (Nat.le_refl _) dP_hasNumber_15
  · refine lv_iload_n hx hb dP_hasNumber_4 rfl (lv_at hl 0 rfl) ?_
    refine lv_bipush (v := 16) hx hb dP_hasNumber_5 (by decide) ?_
    refine lv_icmp_ge (tgt := 14) hx hb dP_hasNumber_7 rfl (fun h7 => ?_) (fun h7 => ?_)
    · refine lv_iconst (v := 0) hx hb dP_hasNumber_14 (by decide) ?_
      exact bm_zret hQ hx hb hr hlk (by decide) hM hS ⟨by first | exact congrArg (fun z => some (Value.int z)) (bm_bl_z (Or.inl h1) : bm_bl v 16 = 0).symm | exact congrArg (fun z => some (Value.int z)) (bm_bl_z (Or.inr h7) : bm_bl v 16 = 0).symm, rfl, hz⟩ (Nat.le_refl _) (Nat.le_refl _) dP_hasNumber_15
    · refine lv_iconst (v := 1) hx hb dP_hasNumber_10 (by decide) ?_
      refine lv_goto (tgt := 15) hx hb dP_hasNumber_11 rfl ?_
      exact bm_zret hQ hx hb hr hlk (by decide) hM hS ⟨by first | exact congrArg (fun z => some (Value.int z)) (bm_bl_o (fun q => q.elim h1 h7) : bm_bl v 16 = 1).symm, rfl, hz⟩ (Nat.le_refl _) (Nat.le_refl _) dP_hasNumber_15
set_option maxHeartbeats 4000000 in
set_option maxRecDepth 100000 in
theorem bc_B_isDenomination (l : Launch) (D : va_G) (ct : Nat → ClassId) (base : Nat) (ad : Nat → Nat) (M : bm_Map) (sz : Nat) (v : Int64) : Met l yB_isDenomination (bm_ws yB_isDenomination cB_isDenomination 2 (some .boolean)) { frames := 0, cells := 0, slots := 0, locals := 0 } (bm_Pre D ct base ad M sz [.long v]) (bm_Post D base (bm_Is (some (.int (bm_bL v 3))) M sz)) 0 0 (bm_A base) := by
  refine bm_ofB (cc := cB_isDenomination) (maxL := 2) (ret := (some .boolean)) (by decide +kernel) (Nat.le_of_ble_eq_true rfl) ?_
  intro vp ve s vm args below meth vc hx hb hr hlk hts hown hml hnm ls hl hz hM hG R Q hR hQ
  have hown : s.vm.findClass "BlindMint" = some vm.cls := hown
  have hK := hG.K
  have hS : va_S (bm_A base) s.heap s.heap [] := va_S.rf
  have hl : lv_has ls 2 [(0, .long v)] := hl
  refine lv_lload_n hx hb dB_isDenomination_0 rfl (lv_at hl 0 rfl) ?_
  refine lv_lconst (v := 0) hx hb dB_isDenomination_1 (by decide) ?_
  refine W.lcmp hx hb dB_isDenomination_2 ?_
  refine lv_if_lt (tgt := 20) hx hb dB_isDenomination_3 rfl (fun h3 => ?_) (fun h3 => ?_)
  · refine lv_iconst (v := 0) hx hb dB_isDenomination_20 (by decide) ?_
    exact bm_zret hQ hx hb hr hlk (by decide) hM hS ⟨by first | exact congrArg (fun z => some (Value.int z)) (bm_bL_z (Or.inl ((lg_cmp_lt _ _).mp h3)) : bm_bL v 3 = 0).symm | exact congrArg (fun z => some (Value.int z)) (bm_bL_z (Or.inr ((lg_cmp_ge _ _).mp h13)) : bm_bL v 3 = 0).symm, rfl, hz⟩ (Nat.le_refl _) (Nat.le_refl _) dB_isDenomination_21
  · refine lv_lload_n hx hb dB_isDenomination_6 rfl (lv_at hl 0 rfl) ?_
    refine va_gets hx hb hG.2.2.2.1 hS hown (hts _ bw_165) (fun _ h9 => h9) dB_isDenomination_7 ?_
    refine va_tlen (v := 3) hx hb hG.2.2.2.2.1 hS (by decide) dB_isDenomination_10 ?_
    refine lv_i2l (v := 3) hx hb dB_isDenomination_11 (by decide) ?_
    refine W.lcmp hx hb dB_isDenomination_12 ?_
    refine lv_if_ge (tgt := 20) hx hb dB_isDenomination_13 rfl (fun h13 => ?_) (fun h13 => ?_)
    · refine lv_iconst (v := 0) hx hb dB_isDenomination_20 (by decide) ?_
      exact bm_zret hQ hx hb hr hlk (by decide) hM hS ⟨by first | exact congrArg (fun z => some (Value.int z)) (bm_bL_z (Or.inl ((lg_cmp_lt _ _).mp h3)) : bm_bL v 3 = 0).symm | exact congrArg (fun z => some (Value.int z)) (bm_bL_z (Or.inr ((lg_cmp_ge _ _).mp h13)) : bm_bL v 3 = 0).symm, rfl, hz⟩ (Nat.le_refl _) (Nat.le_refl _) dB_isDenomination_21
    · refine lv_iconst (v := 1) hx hb dB_isDenomination_16 (by decide) ?_
      refine lv_goto (tgt := 21) hx hb dB_isDenomination_17 rfl ?_
      exact bm_zret hQ hx hb hr hlk (by decide) hM hS ⟨by first | exact congrArg (fun z => some (Value.int z)) (bm_bL_o (fun q => q.elim (fun q => h3 ((lg_cmp_lt _ _).mpr q)) (fun q => h13 ((lg_cmp_ge _ _).mpr q))) : bm_bL v 3 = 1).symm, rfl, hz⟩ (Nat.le_refl _) (Nat.le_refl _) dB_isDenomination_21
set_option maxHeartbeats 4000000 in
set_option maxRecDepth 100000 in
theorem bc_B_isOne (l : Launch) (D : va_G) (ct : Nat → ClassId) (base : Nat) (ad : Nat → Nat) (M : bm_Map) (sz : Nat) (x : Int64) (i : Int32) : Met l yB_isOne (bm_ws yB_isOne cB_isOne 3 (some .boolean)) { frames := 0, cells := 0, slots := 0, locals := 0 } (bm_Pre D ct base ad M sz [.long x, .int i]) (bm_Post D base (bm_Is (some (.int (bm_one x i))) M sz)) 0 0 (bm_A base) := by
  refine bm_ofB (cc := cB_isOne) (maxL := 3) (ret := (some .boolean)) (by decide +kernel) (Nat.le_of_ble_eq_true rfl) ?_
  intro vp ve s vm args below meth vc hx hb hr hlk hts hown hml hnm ls hl hz hM hG R Q hR hQ
  have hown : s.vm.findClass "BlindMint" = some vm.cls := hown
  have hK := hG.K
  have hS : va_S (bm_A base) s.heap s.heap [] := va_S.rf
  have hl : lv_has ls 3 [(0, .long x), (2, .int i)] := hl
  refine lv_lload_n hx hb dB_isOne_0 rfl (lv_at hl 0 rfl) ?_
  refine lv_iload_n hx hb dB_isOne_1 rfl (lv_at hl 1 rfl) ?_
  refine lv_lshr hx hb dB_isOne_2 rfl ?_
  refine lv_lconst (v := 1) hx hb dB_isOne_3 (by decide) ?_
  refine lv_land hx hb dB_isOne_4 ?_
  refine lv_lconst (v := 1) hx hb dB_isOne_5 (by decide) ?_
  refine W.lcmp hx hb dB_isOne_6 ?_
  refine lv_if_ne (tgt := 14) hx hb dB_isOne_7 rfl (fun h7 => ?_) (fun h7 => ?_)
  · refine lv_iconst (v := 0) hx hb dB_isOne_14 (by decide) ?_
    exact bm_zret hQ hx hb hr hlk (by decide) hM hS ⟨by first | exact congrArg (fun z => some (Value.int z)) (if_neg (fun q => h7 ((lg_cmp_eq _ _).mpr q)) : bm_one x i = 0).symm, rfl, hz⟩ (Nat.le_refl _) (Nat.le_refl _) dB_isOne_15
  · refine lv_iconst (v := 1) hx hb dB_isOne_10 (by decide) ?_
    refine lv_goto (tgt := 15) hx hb dB_isOne_11 rfl ?_
    exact bm_zret hQ hx hb hr hlk (by decide) hM hS ⟨by first | exact congrArg (fun z => some (Value.int z)) (if_pos ((lg_cmp_eq _ _).mp h7) : bm_one x i = 1).symm, rfl, hz⟩ (Nat.le_refl _) (Nat.le_refl _) dB_isOne_15
set_option maxHeartbeats 4000000 in
set_option maxRecDepth 100000 in
theorem bc_P_firstOfPart (l : Launch) (D : va_G) (ct : Nat → ClassId) (base : Nat) (ad : Nat → Nat) (M : bm_Map) (sz : Nat) (j : Nat) : Met l yP_firstOfPart (bm_ws yP_firstOfPart cP_firstOfPart 1 (some .int)) { frames := 0, cells := 0, slots := 0, locals := 0 } (bm_Pre D ct base ad M sz [.int (nI j)]) (bm_Post D base (bm_Is (some (.int (4 + nI j * 3))) M sz)) 0 0 (bm_A base) := by
  refine bm_ofB (cc := cP_firstOfPart) (maxL := 1) (ret := (some .int)) (by decide +kernel) (Nat.le_of_ble_eq_true rfl) ?_
  intro vp ve s vm args below meth vc hx hb hr hlk hts hown hml hnm ls hl hz hM hG R Q hR hQ
  have hown : s.vm.findClass "BlindMint$Payment" = some vm.cls := hown
  have hK := hG.K
  have hS : va_S (bm_A base) s.heap s.heap [] := va_S.rf
  have hl : lv_has ls 1 [(0, .int (nI j))] := hl
  refine lv_iconst (v := 4) hx hb dP_firstOfPart_0 (by decide) ?_
  refine lv_iload_n hx hb dP_firstOfPart_1 rfl (lv_at hl 0 rfl) ?_
  refine lv_iconst (v := 3) hx hb dP_firstOfPart_2 (by decide) ?_
  refine lv_imul hx hb dP_firstOfPart_3 ?_
  refine lv_iadd hx hb dP_firstOfPart_4 ?_
  exact bm_iret hQ hx hb hr hlk hM hS ⟨rfl, rfl, hz⟩ (Nat.le_refl _) (Nat.le_refl _) dP_firstOfPart_5
set_option maxHeartbeats 4000000 in
set_option maxRecDepth 100000 in
theorem bc_F_multiply (l : Launch) (D : va_G) (ct : Nat → ClassId) (base : Nat) (ad : Nat → Nat) (M : bm_Map) (sz : Nat) (a b q : Nat) (ha : a < 2 ^ 63) (hb1 : b < 2 ^ 63) (hq1 : 0 < q) (hq2 : q < 2 ^ 31) : Met l yF_multiply (bm_ws yF_multiply cF_multiply 6 (some .long)) { frames := 0, cells := 0, slots := 0, locals := 0 } (bm_Pre D ct base ad M sz [.long (lN a), .long (lN b), .long (lN q)]) (bm_Post D base (bm_Is (some (.long (lN (a % q * (b % q) % q)))) M sz)) 0 0 (bm_A base) := by
  refine bm_ofB (cc := cF_multiply) (maxL := 6) (ret := (some .long)) (by decide +kernel) (Nat.le_of_ble_eq_true rfl) ?_
  intro vp ve s vm args below meth vc hx hb hr hlk hts hown hml hnm ls hl hz hM hG R Q hR hQ
  have hown : s.vm.findClass "BlindMint$Field" = some vm.cls := hown
  have hK := hG.K
  have hS : va_S (bm_A base) s.heap s.heap [] := va_S.rf
  have hl : lv_has ls 6 [(0, .long (lN a)), (2, .long (lN b)), (4, .long (lN q))] := hl
  refine lv_lload_n hx hb dF_multiply_0 rfl (lv_at hl 0 rfl) ?_
  refine lv_lload hx hb dF_multiply_1 (lv_at hl 2 rfl) ?_
  refine lv_lrem hx hb dF_multiply_3 (bm_lN_ne (by omega) (by omega)) ?_
  refine lv_topl (fun t1 e_t1 => ?_)
  have e_t1 : t1 = lN (a % q) := by rw [e_t1]; rw [pk_lRem ha (by omega) (by omega)]
  subst e_t1
  refine lv_lload_n hx hb dF_multiply_4 rfl (lv_at hl 1 rfl) ?_
  refine lv_lload hx hb dF_multiply_5 (lv_at hl 2 rfl) ?_
  refine lv_lrem hx hb dF_multiply_7 (bm_lN_ne (by omega) (by omega)) ?_
  refine lv_topl (fun t2 e_t2 => ?_)
  have e_t2 : t2 = lN (b % q) := by rw [e_t2]; rw [pk_lRem hb1 (by omega) (by omega)]
  subst e_t2
  refine lv_lmul hx hb dF_multiply_8 ?_
  refine lv_lload hx hb dF_multiply_9 (lv_at hl 2 rfl) ?_
  refine lv_lrem hx hb dF_multiply_11 (bm_lN_ne (by omega) (by omega)) ?_
  have ha1 : a % q < q := Nat.mod_lt _ (by omega)
  have hb2 : b % q < q := Nat.mod_lt _ (by omega)
  refine lv_topl (fun t3 e_t3 => ?_)
  have e_t3 : t3 = lN (a % q * (b % q) % q) := by rw [e_t3]; rw [lN_mul, pk_lRem (bm_mul_lt ha1 hb2 hq2) (by omega) (by omega)]
  subst e_t3
  exact bm_lret hQ hx hb hr hlk hM hS ⟨rfl, rfl, hz⟩ (Nat.le_refl _) (Nat.le_refl _) dF_multiply_12
set_option maxHeartbeats 4000000 in
set_option maxRecDepth 100000 in
theorem bc_F_power (l : Launch) (D : va_G) (ct : Nat → ClassId) (base : Nat) (ad : Nat → Nat) (M : bm_Map) (sz : Nat) (b x q : Nat) (hb1 : b < 2 ^ 63) (hx1 : x < 2 ^ 30) (hq1 : 1 < q) (hq2 : q < 2 ^ 31) : Met l yF_power (bm_ws yF_power cF_power 11 (some .long)) { frames := 1, cells := 0, slots := 0, locals := 22 } (bm_Pre D ct base ad M sz [.long (lN b), .long (lN x), .long (lN q)]) (bm_Post D base (bm_Is (some (.long (lN (b ^ x % q)))) M sz)) 0 0 (bm_A base) := by
  refine bm_ofB (cc := cF_power) (maxL := 11) (ret := (some .long)) (by decide +kernel) (Nat.le_of_ble_eq_true rfl) ?_
  intro vp ve s vm args below meth vc hx hb hr hlk hts hown hml hnm ls hl hz hM hG R Q hR hQ
  have hown : s.vm.findClass "BlindMint$Field" = some vm.cls := hown
  have hK := hG.K
  have hS : va_S (bm_A base) s.heap s.heap [] := va_S.rf
  have hl : lv_has ls 11 [(0, .long (lN b)), (2, .long (lN x)), (4, .long (lN q))] := hl
  refine lv_lload_n hx hb dF_power_0 rfl (lv_at hl 0 rfl) ?_
  refine lv_lload hx hb dF_power_1 (lv_at hl 2 rfl) ?_
  refine lv_lrem hx hb dF_power_3 (bm_lN_ne (by omega) (by omega)) ?_
  refine lv_topl (fun t1 e_t1 => ?_)
  have e_t1 : t1 = lN (b ^ (2 ^ 0) % q) := by rw [e_t1]; rw [pk_lRem hb1 (by omega) (by omega), Nat.pow_zero, Nat.pow_one]
  subst e_t1
  refine lv_lstore hx hb dF_power_4 hl (by decide) rfl (fun ls hl => ?_)
  have hl : lv_has ls 11 [(6, .long (lN (b ^ (2 ^ 0) % q))), (0, .long (lN b)), (2, .long (lN x)), (4, .long (lN q))] := hl
  refine lv_lconst (v := 1) hx hb dF_power_6 (by decide) ?_
  refine lv_topl (fun t2 e_t2 => ?_)
  have e_t2 : t2 = lN (b ^ (x % 2 ^ 0) % q) := by rw [e_t2]; exact bm_pow_z hq1
  subst e_t2
  refine lv_lstore hx hb dF_power_7 hl (by decide) rfl (fun ls hl => ?_)
  have hl : lv_has ls 11 [(8, .long (lN (b ^ (x % 2 ^ 0) % q))), (6, .long (lN (b ^ (2 ^ 0) % q))), (0, .long (lN b)), (2, .long (lN x)), (4, .long (lN q))] := hl
  refine lv_iconst (v := 0) hx hb dF_power_9 (by decide) ?_
  refine lv_istore hx hb dF_power_10 hl (by decide) rfl (fun ls hl => ?_)
  have hl : lv_has ls 11 [(10, .int 0), (8, .long (lN (b ^ (x % 2 ^ 0) % q))), (6, .long (lN (b ^ (2 ^ 0) % q))), (0, .long (lN b)), (2, .long (lN x)), (4, .long (lN q))] := hl
  have hl : lv_has ls 11 [(8, .long (lN (b ^ (x % 2 ^ 0) % q))), (6, .long (lN (b ^ (2 ^ 0) % q))), (10, .int 0), (2, .long (lN x)), (4, .long (lN q))] := lv_sub hl [1, 2, 0, 4, 5] rfl
  have loop : ∀ (n : Nat) (i : Nat) (ls : Array Slot) (H : Heap) (locs : List Loc), i + n = 30 → lv_has ls 11 [(8, .long (lN (b ^ (x % 2 ^ i) % q))), (6, .long (lN (b ^ (2 ^ i) % q))), (10, .int (nI i)), (2, .long (lN x)), (4, .long (lN q))] → H.size = sz → bm_M D base M H → va_S (bm_A base) s.heap H locs → W vp l ve R s vm args below meth vc H locs 0 0 Q (F0 vm 12 ls []) := by
    intro n
    induction n with
    | zero =>
      intro i ls H locs hi hl hz hM hS
      obtain rfl : i = 30 := by omega
      rw [Nat.mod_eq_of_lt hx1] at hl
      have hl : lv_has ls 11 [(8, .long (lN (b ^ x % q))), (6, .long (lN (b ^ (2 ^ 30) % q))), (10, .int 30), (2, .long (lN x)), (4, .long (lN q))] := hl
      refine lv_iload hx hb dF_power_12 (lv_at hl 2 rfl) ?_
      refine lv_bipush (v := 30) hx hb dF_power_14 (by decide) ?_
      refine lv_icmp_ge (tgt := 54) hx hb dF_power_16 rfl (fun _ => ?_) (fun h => absurd h (by decide))
      refine lv_lload hx hb dF_power_54 (lv_at hl 0 rfl) ?_
      exact bm_lret hQ hx hb hr hlk hM hS ⟨rfl, rfl, hz⟩ (Nat.le_refl _) (Nat.le_refl _) dF_power_56
    | succ n ih =>
      intro i ls H locs hi hl hz hM hS
      have hp1 : b ^ (x % 2 ^ i) % q < q := Nat.mod_lt _ (by omega)
      have hp2 : b ^ (2 ^ i) % q < q := Nat.mod_lt _ (by omega)
      refine lv_iload hx hb dF_power_12 (lv_at hl 2 rfl) ?_
      refine lv_bipush (v := 30) hx hb dF_power_14 (by decide) ?_
      refine lv_icmp_ge (tgt := 54) hx hb dF_power_16 rfl (fun h16 => absurd h16 (nI_ge (b := 30) (by omega) (by decide))) (fun h16 => ?_)
      refine lv_lload_n hx hb dF_power_19 rfl (lv_at hl 3 rfl) ?_
      refine lv_iload hx hb dF_power_20 (lv_at hl 2 rfl) ?_
      refine bm_callE (va_runSN (As := [.long (lN x), .int (nI i)]) (rest := []) ⟨hx, hb, hml, hown, hts⟩ (bc_B_isOne l D ct base ad M sz (lN x) (nI i)) ⟨va_cnB 2 hts (bm_goodW bw_196) rfl rfl rfl (hG.2.2.1.w212) (hts _ bw_1) (by decide +kernel) (by rw [← hR]; exact ⟨Nat.le_of_ble_eq_true rfl, Nat.le_of_ble_eq_true rfl⟩), hts _ bw_195, trivial⟩ (bm_preS hM hG hS hz) rfl rfl hl.1 rfl (lv_room (Nat.le_of_ble_eq_true rfl)) dF_power_22 (by rw [← hR]; exact ⟨Nat.le_of_ble_eq_true rfl, Nat.le_of_ble_eq_true rfl⟩)) hS (fun H locs hz hM hS => ?_)
      refine lv_if_eq (tgt := 38) hx hb dF_power_25 rfl (fun h25 => ?_) (fun h25 => ?_)
      · rw [bm_one_n (by omega) (by omega)] at h25
        rw [bm_pow_0 (p := q) (b := b) (bm_if0 h25)] at hl
        refine lv_lload hx hb dF_power_38 (lv_at hl 1 rfl) ?_
        refine lv_lload hx hb dF_power_40 (lv_at hl 1 rfl) ?_
        refine lv_lmul hx hb dF_power_42 ?_
        refine lv_lload hx hb dF_power_43 (lv_at hl 4 rfl) ?_
        refine lv_lrem hx hb dF_power_45 (bm_lN_ne (by omega) (by omega)) ?_
        refine lv_topl (fun t3 e_t3 => ?_)
        have e_t3 : t3 = lN (b ^ (2 ^ (i + 1)) % q) := by rw [e_t3]; rw [lN_mul, pk_lRem (bm_mul_lt hp2 hp2 hq2) (by omega) (by omega), bm_pow_s]
        subst e_t3
        refine lv_lstore hx hb dF_power_46 hl (by decide) rfl (fun ls hl => ?_)
        have hl : lv_has ls 11 [(6, .long (lN (b ^ (2 ^ (i + 1)) % q))), (8, .long (lN (b ^ (x % 2 ^ (i + 1)) % q))), (10, .int (nI i)), (2, .long (lN x)), (4, .long (lN q))] := hl
        refine lv_iinc (v := nI (i + 1)) (k := 2) hx hb dF_power_48 hl rfl (bm_inc i) (by decide) rfl (fun ls hl => ?_)
        have hl : lv_has ls 11 [(10, .int (nI (i + 1))), (6, .long (lN (b ^ (2 ^ (i + 1)) % q))), (8, .long (lN (b ^ (x % 2 ^ (i + 1)) % q))), (2, .long (lN x)), (4, .long (lN q))] := hl
        refine lv_goto (tgt := 12) hx hb dF_power_51 rfl ?_
        have hl : lv_has ls 11 [(8, .long (lN (b ^ (x % 2 ^ (i + 1)) % q))), (6, .long (lN (b ^ (2 ^ (i + 1)) % q))), (10, .int (nI (i + 1))), (2, .long (lN x)), (4, .long (lN q))] := lv_sub hl [2, 1, 0, 3, 4] rfl
        exact ih (i + 1) ls _ _ (by omega) hl hz hM hS
      · rw [bm_one_n (by omega) (by omega)] at h25
        refine lv_lload hx hb dF_power_28 (lv_at hl 0 rfl) ?_
        refine lv_lload hx hb dF_power_30 (lv_at hl 1 rfl) ?_
        refine lv_lmul hx hb dF_power_32 ?_
        refine lv_lload hx hb dF_power_33 (lv_at hl 4 rfl) ?_
        refine lv_lrem hx hb dF_power_35 (bm_lN_ne (by omega) (by omega)) ?_
        refine lv_topl (fun t4 e_t4 => ?_)
        have e_t4 : t4 = lN (b ^ (x % 2 ^ (i + 1)) % q) := by rw [e_t4]; rw [lN_mul, pk_lRem (bm_mul_lt hp1 hp2 hq2) (by omega) (by omega), bm_pow_1 (bm_if1 h25)]
        subst e_t4
        refine lv_lstore hx hb dF_power_36 hl (by decide) rfl (fun ls hl => ?_)
        have hl : lv_has ls 11 [(8, .long (lN (b ^ (x % 2 ^ (i + 1)) % q))), (6, .long (lN (b ^ (2 ^ i) % q))), (10, .int (nI i)), (2, .long (lN x)), (4, .long (lN q))] := hl
        refine lv_lload hx hb dF_power_38 (lv_at hl 1 rfl) ?_
        refine lv_lload hx hb dF_power_40 (lv_at hl 1 rfl) ?_
        refine lv_lmul hx hb dF_power_42 ?_
        refine lv_lload hx hb dF_power_43 (lv_at hl 4 rfl) ?_
        refine lv_lrem hx hb dF_power_45 (bm_lN_ne (by omega) (by omega)) ?_
        refine lv_topl (fun t5 e_t5 => ?_)
        have e_t5 : t5 = lN (b ^ (2 ^ (i + 1)) % q) := by rw [e_t5]; rw [lN_mul, pk_lRem (bm_mul_lt hp2 hp2 hq2) (by omega) (by omega), bm_pow_s]
        subst e_t5
        refine lv_lstore hx hb dF_power_46 hl (by decide) rfl (fun ls hl => ?_)
        have hl : lv_has ls 11 [(6, .long (lN (b ^ (2 ^ (i + 1)) % q))), (8, .long (lN (b ^ (x % 2 ^ (i + 1)) % q))), (10, .int (nI i)), (2, .long (lN x)), (4, .long (lN q))] := hl
        refine lv_iinc (v := nI (i + 1)) (k := 2) hx hb dF_power_48 hl rfl (bm_inc i) (by decide) rfl (fun ls hl => ?_)
        have hl : lv_has ls 11 [(10, .int (nI (i + 1))), (6, .long (lN (b ^ (2 ^ (i + 1)) % q))), (8, .long (lN (b ^ (x % 2 ^ (i + 1)) % q))), (2, .long (lN x)), (4, .long (lN q))] := hl
        refine lv_goto (tgt := 12) hx hb dF_power_51 rfl ?_
        have hl : lv_has ls 11 [(8, .long (lN (b ^ (x % 2 ^ (i + 1)) % q))), (6, .long (lN (b ^ (2 ^ (i + 1)) % q))), (10, .int (nI (i + 1))), (2, .long (lN x)), (4, .long (lN q))] := lv_sub hl [2, 1, 0, 3, 4] rfl
        exact ih (i + 1) ls _ _ (by omega) hl hz hM hS
  exact loop 30 0 ls _ _ rfl hl hz hM hS
end
section
theorem bm_sub_lN {a b : Nat} (h : b ≤ a) : lN a - lN b = lN (a - b) := lN_sub h
theorem bm_mm {a b q : Nat} : a % q * (b % q % q) % q = a % q * (b % q) % q := by rw [Nat.mod_mod]
theorem bm_mm2 {a b q : Nat} : a % q * (b % q % q) % q = a * b % q := by rw [Nat.mod_mod, ← Nat.mul_mod]
/-- a negative and a number that isn't: their xor is negative -/
theorem bm_xor_neg {a q : Nat} (ha : 0 < a) (ha2 : a < 2 ^ 62) (hq : q < 2 ^ 62) : -(lN a) ^^^ lN q < 0 := by
  have h1 : (-(lN a)).toBitVec.msb = true := by
    rw [BitVec.msb_eq_toInt]
    have h : (-(lN a)).toBitVec.toInt = -(a : Int) := bm_neg_T ha2
    rw [h]
    exact decide_eq_true (by omega)
  have h2 : (lN q).toBitVec.msb = false := by
    rw [BitVec.msb_eq_toInt]
    have h : (lN q).toBitVec.toInt = (q : Int) := pk_lT (by omega)
    rw [h]
    exact decide_eq_false (by omega)
  rw [Int64.lt_iff_toInt_lt]
  have h3 : (-(lN a) ^^^ lN q).toBitVec.msb = true := by
    rw [Int64.toBitVec_xor, BitVec.msb_xor, h1, h2]
    rfl
  rw [BitVec.msb_eq_toInt] at h3
  have h4 := of_decide_eq_true h3
  exact h4
theorem bm_xor_pos {a q : Nat} (ha2 : a < 2 ^ 62) (hq : q < 2 ^ 62) : ¬ lN a ^^^ lN q < 0 := by
  have h1 : (lN a).toBitVec.msb = false := by
    rw [BitVec.msb_eq_toInt]
    have h : (lN a).toBitVec.toInt = (a : Int) := pk_lT (by omega)
    rw [h]
    exact decide_eq_false (by omega)
  have h2 : (lN q).toBitVec.msb = false := by
    rw [BitVec.msb_eq_toInt]
    have h : (lN q).toBitVec.toInt = (q : Int) := pk_lT (by omega)
    rw [h]
    exact decide_eq_false (by omega)
  rw [Int64.lt_iff_toInt_lt]
  have h3 : (lN a ^^^ lN q).toBitVec.msb = false := by
    rw [Int64.toBitVec_xor, BitVec.msb_xor, h1, h2]
    rfl
  rw [BitVec.msb_eq_toInt] at h3
  have h4 := of_decide_eq_false h3
  exact h4
theorem bm_neg0 {r : Nat} (hr : r < 2 ^ 62) (h : -(lN r) = 0) : r = 0 := by
  have h1 := congrArg Int64.toInt h
  rw [bm_neg_T hr] at h1
  have h2 : (0 : Int64).toInt = 0 := by decide
  omega
/-- is s the signature of the number m in the denomination d -/
def bm_is (d : Nat) (s : Int64) (m : Nat) : Int32 := if s < 0 ∨ lN (bm_p d * bm_q d) ≤ s ∨ ¬ s.toBitVec.toNat ^ 17 % bm_p d = m % bm_p d ∨ ¬ s.toBitVec.toNat ^ 17 % bm_q d = m % bm_q d then 0 else 1
theorem bm_is_n {s : Int64} (h : ¬ s < 0) : s.toBitVec.toNat < 2 ^ 63 ∧ s = lN s.toBitVec.toNat := by
  obtain ⟨k, hk, rfl⟩ := pk_lOf h
  rw [wb_tn (by omega)]
  exact ⟨hk, rfl⟩
/-- the head of a JDK method of a class that the machine has entries for -/
theorem bm_ofF {l : Launch} {y : MethodName} {rm : Room} {D : va_G} {ct : Nat → ClassId} {base : Nat} {ad : Nat → Nat} {M : bm_Map} {sz : Nat} {av : List Value} {post : Option Value → bm_Map → Nat → Prop} {mc ms : Nat} {cc : ByteArray} {maxL : Nat} {ret : Option FieldType}
    (hy : plainFor y = true) (hlen : (lg_sl av).length ≤ maxL)
    (body : ∀ (p : Program) (e : Env) (s : State) (m : MethodId) (args : Array Value) (below : List Frame) (meth : Method) (c : Code), p.tables.exec = Jvm.exec → c.code = cc → meth.sig.returnType = ret → meth.locks = false → (∀ w ∈ bm_big, w.before args s = true) → s.vm.findClass y.cls = some m.cls → c.maxLocals = maxL → meth.name = y.name →
      ∀ ls : Array Slot, lv_has ls maxL (lv_args 0 av) → s.heap.size = sz → bm_M D base M s.heap → bm_G D ct base ad s → ∀ (R : Room) (Q : State → Prop), rm = R → MQ below (bm_Post D base post) args s mc ms (bm_A base) = Q → W p l e R s m args below meth c s.heap [] 0 0 Q (F0 m 0 ls [])) :
    Met l y (bm_ws y cc maxL ret) rm (bm_Pre D ct base ad M sz av) (bm_Post D base post) mc ms (bm_A base) := by
  refine va_MetF (cc := cc) (maxL := maxL) (ret := ret) hy rfl ?_
  intro p e s m args below meth c s₁ B hml hv
  obtain ⟨rfl, hsz, hM, hG⟩ := hv
  rw [lg_entry_eq]
  exact body p e s m _ below meth c B.exec B.bytes B.returns B.notSynchronized (fun w h => atoms_spec (ws := bm_ws y cc maxL ret) B.pre w (List.mem_cons_of_mem _ h)) (findClass_of_methodNamed B.named) hml (name_of_methodNamed B.named B.method).1 _ (lv_entry av hlen) hsz hM hG _ _ rfl rfl
end
section
set_option maxHeartbeats 4000000 in
set_option maxRecDepth 100000 in
theorem bc_F_divide (l : Launch) (D : va_G) (ct : Nat → ClassId) (base : Nat) (ad : Nat → Nat) (M : bm_Map) (sz : Nat) (a b q : Nat) (ha : a < 2 ^ 63) (hb1 : b < 2 ^ 63) (hq1 : 2 < q) (hq2 : q < 2 ^ 30) : Met l yF_divide (bm_ws yF_divide cF_divide 6 (some .long)) { frames := 2, cells := 0, slots := 0, locals := 52 } (bm_Pre D ct base ad M sz [.long (lN a), .long (lN b), .long (lN q)]) (bm_Post D base (bm_Is (some (.long (lN (a % q * (b ^ (q - 2) % q) % q)))) M sz)) 0 0 (bm_A base) := by
  refine bm_ofB (cc := cF_divide) (maxL := 6) (ret := (some .long)) (by decide +kernel) (Nat.le_of_ble_eq_true rfl) ?_
  intro vp ve s vm args below meth vc hx hb hr hlk hts hown hml hnm ls hl hz hM hG R Q hR hQ
  have hown : s.vm.findClass "BlindMint$Field" = some vm.cls := hown
  have hK := hG.K
  have hS : va_S (bm_A base) s.heap s.heap [] := va_S.rf
  have hl : lv_has ls 6 [(0, .long (lN a)), (2, .long (lN b)), (4, .long (lN q))] := hl
  refine lv_lload_n hx hb dF_divide_0 rfl (lv_at hl 0 rfl) ?_
  refine lv_lload_n hx hb dF_divide_1 rfl (lv_at hl 1 rfl) ?_
  refine lv_lload hx hb dF_divide_2 (lv_at hl 2 rfl) ?_
  refine lv_ldc2 hx hb hown (hts _ bw_389) dF_divide_4 ?_
  refine lv_lsub hx hb dF_divide_7 ?_
  refine lv_topl (fun t1 e_t1 => ?_)
  have e_t1 : t1 = lN (q - 2) := by rw [e_t1]; exact lN_sub (b := 2) (by omega)
  subst e_t1
  refine lv_lload hx hb dF_divide_8 (lv_at hl 2 rfl) ?_
  refine bm_callE (va_runS (As := [.long (lN b), .long (lN (q - 2)), .long (lN q)]) (rest := [.long (lN a)]) ⟨hx, hb, hml, hown, hts⟩ (bc_F_power l D ct base ad M sz b (q - 2) q hb1 (by omega) (by omega) (by omega)) (va_cwS 3 hts (bm_goodS bw_390 bw_210 bw_12 bw_211) rfl rfl rfl (by decide +kernel) (by rw [← hR]; exact ⟨Nat.le_of_ble_eq_true rfl, Nat.le_of_ble_eq_true rfl⟩)) (bm_preS hM hG hS hz) rfl rfl hl.1 rfl (lv_room (Nat.le_of_ble_eq_true rfl)) dF_divide_10 (by rw [← hR]; exact ⟨Nat.le_of_ble_eq_true rfl, Nat.le_of_ble_eq_true rfl⟩)) hS (fun H locs hz hM hS => ?_)
  refine lv_lload hx hb dF_divide_13 (lv_at hl 2 rfl) ?_
  have hpw : b ^ (q - 2) % q < q := Nat.mod_lt _ (by omega)
  refine bm_callE (va_runS (As := [.long (lN a), .long (lN (b ^ (q - 2) % q)), .long (lN q)]) (rest := []) ⟨hx, hb, hml, hown, hts⟩ (bc_F_multiply l D ct base ad M sz a (b ^ (q - 2) % q) q ha (by omega) (by omega) (by omega)) (va_cwS 3 hts (bm_goodS bw_391 bw_376 bw_12 bw_377) rfl rfl rfl (by decide +kernel) (by rw [← hR]; exact ⟨Nat.le_of_ble_eq_true rfl, Nat.le_of_ble_eq_true rfl⟩)) (bm_preS hM hG hS hz) rfl rfl hl.1 rfl (lv_room (Nat.le_of_ble_eq_true rfl)) dF_divide_15 (by rw [← hR]; exact ⟨Nat.le_of_ble_eq_true rfl, Nat.le_of_ble_eq_true rfl⟩)) hS (fun H locs hz hM hS => ?_)
  refine lv_topl (fun t2 e_t2 => ?_)
  have e_t2 : t2 = lN (a % q * (b ^ (q - 2) % q) % q) := by rw [e_t2]; rw [bm_mm]
  subst e_t2
  exact bm_lret hQ hx hb hr hlk hM hS ⟨rfl, rfl, hz⟩ (Nat.le_refl _) (Nat.le_refl _) dF_divide_18
set_option maxHeartbeats 4000000 in
set_option maxRecDepth 100000 in
theorem bc_F_rootExponent (l : Launch) (D : va_G) (ct : Nat → ClassId) (base : Nat) (ad : Nat → Nat) (M : bm_Map) (sz : Nat) (q k0 : Nat) (hk0 : 1 ≤ k0) (hk1 : k0 < 17) (hz0 : (1 + k0 * (q - 1)) % 17 = 0) (hlo : ∀ k, k < k0 → (1 + k * (q - 1)) % 17 ≠ 0) (hq1 : 1 < q) (hq2 : q < 2 ^ 30) : Met l yF_rootExponent (bm_ws yF_rootExponent cF_rootExponent 8 (some .long)) { frames := 0, cells := 0, slots := 0, locals := 0 } (bm_Pre D ct base ad M sz [.long 17, .long (lN q)]) (bm_Post D base (bm_Is (some (.long (lN (bm_u k0 q)))) M sz)) 0 0 (bm_A base) := by
  refine bm_ofB (cc := cF_rootExponent) (maxL := 8) (ret := (some .long)) (by decide +kernel) (Nat.le_of_ble_eq_true rfl) ?_
  intro vp ve s vm args below meth vc hx hb hr hlk hts hown hml hnm ls hl hz hM hG R Q hR hQ
  have hown : s.vm.findClass "BlindMint$Field" = some vm.cls := hown
  have hK := hG.K
  have hS : va_S (bm_A base) s.heap s.heap [] := va_S.rf
  have hl : lv_has ls 8 [(0, .long 17), (2, .long (lN q))] := hl
  refine lv_lconst (v := 1) hx hb dF_rootExponent_0 (by decide) ?_
  refine lv_lstore hx hb dF_rootExponent_1 hl (by decide) rfl (fun ls hl => ?_)
  have hl : lv_has ls 8 [(4, .long 1), (0, .long 17), (2, .long (lN q))] := hl
  have hl : lv_has ls 8 [(0, .long 17), (2, .long (lN q)), (4, .long 1)] := lv_sub hl [1, 2, 0] rfl
  have loop : ∀ (n : Nat) (k : Nat) (ls : Array Slot) (H : Heap) (locs : List Loc), 1 ≤ k → k + n = k0 → lv_has ls 8 [(0, .long 17), (2, .long (lN q)), (4, .long (lN k))] → H.size = sz → bm_M D base M H → va_S (bm_A base) s.heap H locs → W vp l ve R s vm args below meth vc H locs 0 0 Q (F0 vm 3 ls []) := by
    intro n
    induction n with
    | zero =>
      intro k ls H locs hk1 hk hl hz hM hS
      obtain rfl : k = k0 := by omega
      have hkq : k * (q - 1) ≤ 16 * 2 ^ 30 := Nat.mul_le_mul (by omega) (by omega)
      refine lv_lload hx hb dF_rootExponent_3 (lv_at hl 2 rfl) ?_
      refine lv_lload_n hx hb dF_rootExponent_5 rfl (lv_at hl 0 rfl) ?_
      refine W.lcmp hx hb dF_rootExponent_6 ?_
      refine lv_if_ge (tgt := 43) hx hb dF_rootExponent_7 rfl (fun h7 => absurd ((lg_cmp_ge _ _).mp h7) (fun z => by have := (pk_lLE (a := 17) (b := k) (by decide) (by omega)).mp z; omega)) (fun h7 => ?_)
      refine lv_lconst (v := 1) hx hb dF_rootExponent_10 (by decide) ?_
      refine lv_lload hx hb dF_rootExponent_11 (lv_at hl 2 rfl) ?_
      refine lv_lload_n hx hb dF_rootExponent_13 rfl (lv_at hl 1 rfl) ?_
      refine lv_lconst (v := 1) hx hb dF_rootExponent_14 (by decide) ?_
      refine lv_lsub hx hb dF_rootExponent_15 ?_
      refine lv_lmul hx hb dF_rootExponent_16 ?_
      refine lv_ladd hx hb dF_rootExponent_17 ?_
      refine lv_topl (fun t1 e_t1 => ?_)
      have e_t1 : t1 = lN (1 + k * (q - 1)) := by rw [e_t1]; rw [show (lN q - 1 : Int64) = lN (q - 1) from lN_sub (b := 1) (by omega), lN_mul]; exact lN_add 1 _
      subst e_t1
      refine lv_lstore hx hb dF_rootExponent_18 hl (by decide) rfl (fun ls hl => ?_)
      have hl : lv_has ls 8 [(6, .long (lN (1 + k * (q - 1)))), (0, .long 17), (2, .long (lN q)), (4, .long (lN k))] := hl
      refine lv_lload hx hb dF_rootExponent_20 (lv_at hl 0 rfl) ?_
      refine lv_lload_n hx hb dF_rootExponent_22 rfl (lv_at hl 1 rfl) ?_
      refine lv_lrem hx hb dF_rootExponent_23 (by decide) ?_
      refine lv_topl (fun t2 e_t2 => ?_)
      have e_t2 : t2 = lN ((1 + k * (q - 1)) % 17) := by rw [e_t2]; exact pk_lRem (b := 17) (by omega) (by decide) (by decide)
      subst e_t2
      refine lv_lconst (v := 0) hx hb dF_rootExponent_24 (by decide) ?_
      refine W.lcmp hx hb dF_rootExponent_25 ?_
      refine lv_if_ne (tgt := 34) hx hb dF_rootExponent_26 rfl (fun h26 => absurd (by rw [hz0]; decide) h26) (fun h26 => ?_)
      refine lv_lload hx hb dF_rootExponent_29 (lv_at hl 0 rfl) ?_
      refine lv_lload_n hx hb dF_rootExponent_31 rfl (lv_at hl 1 rfl) ?_
      refine lv_ldiv hx hb dF_rootExponent_32 (by decide) ?_
      refine lv_topl (fun t3 e_t3 => ?_)
      have e_t3 : t3 = lN (bm_u k q) := by rw [e_t3]; exact pk_lDiv (b := 17) (by omega) (by decide) (by decide)
      subst e_t3
      exact bm_lret hQ hx hb hr hlk hM hS ⟨rfl, rfl, hz⟩ (Nat.le_refl _) (Nat.le_refl _) dF_rootExponent_33
    | succ n ih =>
      intro k ls H locs hk1 hk hl hz hM hS
      have hkq : k * (q - 1) ≤ 16 * 2 ^ 30 := Nat.mul_le_mul (by omega) (by omega)
      refine lv_lload hx hb dF_rootExponent_3 (lv_at hl 2 rfl) ?_
      refine lv_lload_n hx hb dF_rootExponent_5 rfl (lv_at hl 0 rfl) ?_
      refine W.lcmp hx hb dF_rootExponent_6 ?_
      refine lv_if_ge (tgt := 43) hx hb dF_rootExponent_7 rfl (fun h7 => absurd ((lg_cmp_ge _ _).mp h7) (fun z => by have := (pk_lLE (a := 17) (b := k) (by decide) (by omega)).mp z; omega)) (fun h7 => ?_)
      refine lv_lconst (v := 1) hx hb dF_rootExponent_10 (by decide) ?_
      refine lv_lload hx hb dF_rootExponent_11 (lv_at hl 2 rfl) ?_
      refine lv_lload_n hx hb dF_rootExponent_13 rfl (lv_at hl 1 rfl) ?_
      refine lv_lconst (v := 1) hx hb dF_rootExponent_14 (by decide) ?_
      refine lv_lsub hx hb dF_rootExponent_15 ?_
      refine lv_lmul hx hb dF_rootExponent_16 ?_
      refine lv_ladd hx hb dF_rootExponent_17 ?_
      refine lv_topl (fun t4 e_t4 => ?_)
      have e_t4 : t4 = lN (1 + k * (q - 1)) := by rw [e_t4]; rw [show (lN q - 1 : Int64) = lN (q - 1) from lN_sub (b := 1) (by omega), lN_mul]; exact lN_add 1 _
      subst e_t4
      refine lv_lstore hx hb dF_rootExponent_18 hl (by decide) rfl (fun ls hl => ?_)
      have hl : lv_has ls 8 [(6, .long (lN (1 + k * (q - 1)))), (0, .long 17), (2, .long (lN q)), (4, .long (lN k))] := hl
      refine lv_lload hx hb dF_rootExponent_20 (lv_at hl 0 rfl) ?_
      refine lv_lload_n hx hb dF_rootExponent_22 rfl (lv_at hl 1 rfl) ?_
      refine lv_lrem hx hb dF_rootExponent_23 (by decide) ?_
      refine lv_topl (fun t5 e_t5 => ?_)
      have e_t5 : t5 = lN ((1 + k * (q - 1)) % 17) := by rw [e_t5]; exact pk_lRem (b := 17) (by omega) (by decide) (by decide)
      subst e_t5
      refine lv_lconst (v := 0) hx hb dF_rootExponent_24 (by decide) ?_
      refine W.lcmp hx hb dF_rootExponent_25 ?_
      refine lv_if_ne (tgt := 34) hx hb dF_rootExponent_26 rfl (fun h26 => ?_) (fun h26 => absurd ((lg_cmp_eq _ _).mp h26) (bm_lN_ne (by have := hlo k (by omega); omega) (by omega)))
      refine lv_lload hx hb dF_rootExponent_34 (lv_at hl 3 rfl) ?_
      refine lv_lconst (v := 1) hx hb dF_rootExponent_36 (by decide) ?_
      refine lv_ladd hx hb dF_rootExponent_37 ?_
      refine lv_topl (fun t6 e_t6 => ?_)
      have e_t6 : t6 = lN (k + 1) := by rw [e_t6]; exact lN_1 k
      subst e_t6
      refine lv_lstore hx hb dF_rootExponent_38 hl (by decide) rfl (fun ls hl => ?_)
      have hl : lv_has ls 8 [(4, .long (lN (k + 1))), (6, .long (lN (1 + k * (q - 1)))), (0, .long 17), (2, .long (lN q))] := hl
      refine lv_goto (tgt := 3) hx hb dF_rootExponent_40 rfl ?_
      have hl : lv_has ls 8 [(0, .long 17), (2, .long (lN q)), (4, .long (lN (k + 1)))] := lv_sub hl [2, 3, 0] rfl
      exact ih (k + 1) ls _ _ (by omega) (by omega) hl hz hM hS
  exact loop (k0 - 1) 1 ls _ _ (by decide) (by omega) hl hz hM hS
set_option maxHeartbeats 4000000 in
set_option maxRecDepth 100000 in
theorem bc_F_root (l : Launch) (D : va_G) (ct : Nat → ClassId) (base : Nat) (ad : Nat → Nat) (M : bm_Map) (sz : Nat) (a q k0 : Nat) (ha : a < 2 ^ 63) (hu : bm_u k0 q < 2 ^ 30) (hk0 : 1 ≤ k0) (hk1 : k0 < 17) (hz0 : (1 + k0 * (q - 1)) % 17 = 0) (hlo : ∀ k, k < k0 → (1 + k * (q - 1)) % 17 ≠ 0) (hq1 : 1 < q) (hq2 : q < 2 ^ 30) : Met l yF_root (bm_ws yF_root cF_root 6 (some .long)) { frames := 2, cells := 0, slots := 0, locals := 52 } (bm_Pre D ct base ad M sz [.long (lN a), .long 17, .long (lN q)]) (bm_Post D base (bm_Is (some (.long (lN (a ^ bm_u k0 q % q)))) M sz)) 0 0 (bm_A base) := by
  refine bm_ofB (cc := cF_root) (maxL := 6) (ret := (some .long)) (by decide +kernel) (Nat.le_of_ble_eq_true rfl) ?_
  intro vp ve s vm args below meth vc hx hb hr hlk hts hown hml hnm ls hl hz hM hG R Q hR hQ
  have hown : s.vm.findClass "BlindMint$Field" = some vm.cls := hown
  have hK := hG.K
  have hS : va_S (bm_A base) s.heap s.heap [] := va_S.rf
  have hl : lv_has ls 6 [(0, .long (lN a)), (2, .long 17), (4, .long (lN q))] := hl
  refine lv_lload_n hx hb dF_root_0 rfl (lv_at hl 0 rfl) ?_
  refine lv_lload_n hx hb dF_root_1 rfl (lv_at hl 1 rfl) ?_
  refine lv_lload hx hb dF_root_2 (lv_at hl 2 rfl) ?_
  refine bm_callE (va_runS (As := [.long 17, .long (lN q)]) (rest := [.long (lN a)]) ⟨hx, hb, hml, hown, hts⟩ (bc_F_rootExponent l D ct base ad M sz q k0 hk0 hk1 hz0 hlo hq1 hq2) (va_cwS 2 hts (bm_goodS bw_399 bw_400 bw_12 bw_401) rfl rfl rfl (by decide +kernel) (by rw [← hR]; exact ⟨Nat.le_of_ble_eq_true rfl, Nat.le_of_ble_eq_true rfl⟩)) (bm_preS hM hG hS hz) rfl rfl hl.1 rfl (lv_room (Nat.le_of_ble_eq_true rfl)) dF_root_4 (by rw [← hR]; exact ⟨Nat.le_of_ble_eq_true rfl, Nat.le_of_ble_eq_true rfl⟩)) hS (fun H locs hz hM hS => ?_)
  refine lv_lload hx hb dF_root_7 (lv_at hl 2 rfl) ?_
  refine bm_callE (va_runS (As := [.long (lN a), .long (lN (bm_u k0 q)), .long (lN q)]) (rest := []) ⟨hx, hb, hml, hown, hts⟩ (bc_F_power l D ct base ad M sz a (bm_u k0 q) q ha hu hq1 (by omega)) (va_cwS 3 hts (bm_goodS bw_390 bw_210 bw_12 bw_211) rfl rfl rfl (by decide +kernel) (by rw [← hR]; exact ⟨Nat.le_of_ble_eq_true rfl, Nat.le_of_ble_eq_true rfl⟩)) (bm_preS hM hG hS hz) rfl rfl hl.1 rfl (lv_room (Nat.le_of_ble_eq_true rfl)) dF_root_9 (by rw [← hR]; exact ⟨Nat.le_of_ble_eq_true rfl, Nat.le_of_ble_eq_true rfl⟩)) hS (fun H locs hz hM hS => ?_)
  exact bm_lret hQ hx hb hr hlk hM hS ⟨rfl, rfl, hz⟩ (Nat.le_refl _) (Nat.le_refl _) dF_root_12
set_option maxHeartbeats 4000000 in
set_option maxRecDepth 100000 in
theorem bc_J_floorMod_le (l : Launch) (D : va_G) (ct : Nat → ClassId) (base : Nat) (ad : Nat → Nat) (M : bm_Map) (sz : Nat) (a q : Nat) (ha : a < 2 ^ 62) (hq1 : 0 < q) (hq2 : q < 2 ^ 30) : Met l yJ_floorMod (bm_ws yJ_floorMod cJ_floorMod 6 (some .long)) { frames := 0, cells := 0, slots := 0, locals := 0 } (bm_Pre D ct base ad M sz [.long (lN a), .long (lN q)]) (bm_Post D base (bm_Is (some (.long (lN (a % q)))) M sz)) 0 0 (bm_A base) := by
  refine bm_ofF (cc := cJ_floorMod) (maxL := 6) (ret := (some .long)) (by decide +kernel) (Nat.le_of_ble_eq_true rfl) ?_
  intro vp ve s vm args below meth vc hx hb hr hlk hts hown hml hnm ls hl hz hM hG R Q hR hQ
  have hown : s.vm.findClass "java/lang/Math" = some vm.cls := hown
  have hK := hG.K
  have hS : va_S (bm_A base) s.heap s.heap [] := va_S.rf
  have hl : lv_has ls 6 [(0, .long (lN a)), (2, .long (lN q))] := hl
  have hmd : a % q < q := Nat.mod_lt _ hq1
  refine lv_lload_n hx hb dJ_floorMod_0 rfl (lv_at hl 0 rfl) ?_
  refine lv_lload_n hx hb dJ_floorMod_1 rfl (lv_at hl 1 rfl) ?_
  refine lv_lrem hx hb dJ_floorMod_2 (bm_lN_ne (by omega) (by omega)) ?_
  refine lv_topl (fun t1 e_t1 => ?_)
  have e_t1 : t1 = lN (a % q) := by rw [e_t1]; rw [pk_lRem (by omega) (by omega) (by omega)]
  subst e_t1
  refine lv_lstore hx hb dJ_floorMod_3 hl (by decide) rfl (fun ls hl => ?_)
  have hl : lv_has ls 6 [(4, .long (lN (a % q))), (0, .long (lN a)), (2, .long (lN q))] := hl
  refine lv_lload_n hx hb dJ_floorMod_5 rfl (lv_at hl 1 rfl) ?_
  refine lv_lload_n hx hb dJ_floorMod_6 rfl (lv_at hl 2 rfl) ?_
  refine lv_lxor hx hb dJ_floorMod_7 ?_
  refine lv_lconst (v := 0) hx hb dJ_floorMod_8 (by decide) ?_
  refine W.lcmp hx hb dJ_floorMod_9 ?_
  refine lv_if_ge (tgt := 25) hx hb dJ_floorMod_10 rfl (fun h10 => ?_) (fun h10 => absurd ((lg_cmp_ge _ _).mpr (Int64.not_lt.mp (bm_xor_pos (by omega) (by omega)))) h10)
  refine lv_lload hx hb dJ_floorMod_25 (lv_at hl 0 rfl) ?_
  exact bm_lret hQ hx hb hr hlk hM hS ⟨rfl, rfl, hz⟩ (Nat.le_refl _) (Nat.le_refl _) dJ_floorMod_27
set_option maxHeartbeats 4000000 in
set_option maxRecDepth 100000 in
theorem bc_J_floorMod_gt (l : Launch) (D : va_G) (ct : Nat → ClassId) (base : Nat) (ad : Nat → Nat) (M : bm_Map) (sz : Nat) (a q : Nat) (ha0 : 0 < a) (ha : a < 2 ^ 62) (hq1 : 0 < q) (hq2 : q < 2 ^ 30) : Met l yJ_floorMod (bm_ws yJ_floorMod cJ_floorMod 6 (some .long)) { frames := 0, cells := 0, slots := 0, locals := 0 } (bm_Pre D ct base ad M sz [.long (-(lN a)), .long (lN q)]) (bm_Post D base (bm_Is (some (.long (lN ((q - a % q) % q)))) M sz)) 0 0 (bm_A base) := by
  refine bm_ofF (cc := cJ_floorMod) (maxL := 6) (ret := (some .long)) (by decide +kernel) (Nat.le_of_ble_eq_true rfl) ?_
  intro vp ve s vm args below meth vc hx hb hr hlk hts hown hml hnm ls hl hz hM hG R Q hR hQ
  have hown : s.vm.findClass "java/lang/Math" = some vm.cls := hown
  have hK := hG.K
  have hS : va_S (bm_A base) s.heap s.heap [] := va_S.rf
  have hl : lv_has ls 6 [(0, .long (-(lN a))), (2, .long (lN q))] := hl
  have hmd : a % q < q := Nat.mod_lt _ hq1
  refine lv_lload_n hx hb dJ_floorMod_0 rfl (lv_at hl 0 rfl) ?_
  refine lv_lload_n hx hb dJ_floorMod_1 rfl (lv_at hl 1 rfl) ?_
  refine lv_lrem hx hb dJ_floorMod_2 (bm_lN_ne (by omega) (by omega)) ?_
  refine lv_topl (fun t1 e_t1 => ?_)
  have e_t1 : t1 = -(lN (a % q)) := by rw [e_t1]; rw [bm_neg_rem (by omega) (by omega) (by omega)]
  subst e_t1
  refine lv_lstore hx hb dJ_floorMod_3 hl (by decide) rfl (fun ls hl => ?_)
  have hl : lv_has ls 6 [(4, .long (-(lN (a % q)))), (0, .long (-(lN a))), (2, .long (lN q))] := hl
  refine lv_lload_n hx hb dJ_floorMod_5 rfl (lv_at hl 1 rfl) ?_
  refine lv_lload_n hx hb dJ_floorMod_6 rfl (lv_at hl 2 rfl) ?_
  refine lv_lxor hx hb dJ_floorMod_7 ?_
  refine lv_lconst (v := 0) hx hb dJ_floorMod_8 (by decide) ?_
  refine W.lcmp hx hb dJ_floorMod_9 ?_
  refine lv_if_ge (tgt := 25) hx hb dJ_floorMod_10 rfl (fun h10 => absurd ((lg_cmp_ge _ _).mp h10) (Int64.not_le.mpr (bm_xor_neg (by omega) (by omega) (by omega)))) (fun h10 => ?_)
  refine lv_lload hx hb dJ_floorMod_13 (lv_at hl 0 rfl) ?_
  refine lv_lconst (v := 0) hx hb dJ_floorMod_15 (by decide) ?_
  refine W.lcmp hx hb dJ_floorMod_16 ?_
  refine lv_if_eq (tgt := 25) hx hb dJ_floorMod_17 rfl (fun h17 => ?_) (fun h17 => ?_)
  · have hr0 := bm_neg0 (by omega) ((lg_cmp_eq _ _).mp h17)
    refine lv_lload hx hb dJ_floorMod_25 (lv_at hl 0 rfl) ?_
    exact bm_lret hQ hx hb hr hlk hM hS ⟨by rw [hr0, Nat.sub_zero, Nat.mod_self]; rfl, rfl, hz⟩ (Nat.le_refl _) (Nat.le_refl _) dJ_floorMod_27
  · have hr0 : a % q ≠ 0 := fun z => h17 ((lg_cmp_eq _ _).mpr (by rw [z]; decide))
    refine lv_lload hx hb dJ_floorMod_20 (lv_at hl 0 rfl) ?_
    refine lv_lload_n hx hb dJ_floorMod_22 rfl (lv_at hl 2 rfl) ?_
    refine lv_ladd hx hb dJ_floorMod_23 ?_
    refine lv_topl (fun t2 e_t2 => ?_)
    have e_t2 : t2 = lN ((q - a % q) % q) := by rw [e_t2]; rw [Nat.mod_eq_of_lt (show q - a % q < q by omega), ← lN_sub (by omega)]; grind
    subst e_t2
    exact bm_lret hQ hx hb hr hlk hM hS ⟨rfl, rfl, hz⟩ (Nat.le_refl _) (Nat.le_refl _) dJ_floorMod_24
end
section
theorem bm_fm_steps {d x y : Nat} : bm_fm (bm_q d) x y % bm_q d * (bm_p d ^ (bm_q d - 2) % bm_q d) % bm_q d = bm_fm (bm_q d) x y * (bm_p d ^ (bm_q d - 2) % bm_q d) % bm_q d := Nat.mod_mul_mod _ _ _
theorem bm_bf_0 {d r : Nat} (h : ¬ r % bm_p d = 0) (h2 : ¬ r % bm_q d = 0) : r = bm_bf d r := by
  unfold bm_bf
  rw [if_neg (fun q => q.elim h h2)]
theorem bm_bf_1 {d r : Nat} (h : r % bm_p d = 0 ∨ r % bm_q d = 0) (h1 : ¬ (r + 1) % bm_p d = 0) (h2 : ¬ (r + 1) % bm_q d = 0) : r + 1 = bm_bf d r := by
  unfold bm_bf
  rw [if_pos h, if_neg (fun q => q.elim h1 h2)]
theorem bm_bf_2 {d r : Nat} (h : r % bm_p d = 0 ∨ r % bm_q d = 0) (h1 : (r + 1) % bm_p d = 0 ∨ (r + 1) % bm_q d = 0) : r + 1 + 1 = bm_bf d r := by
  unfold bm_bf
  rw [if_pos h, if_pos h1]
theorem bm_cmp0 {a : Nat} (ha : a < 2 ^ 63) (h : lg_cmp (lN a) 0 = 0) : a = 0 := (pk_lEQ (a := a) (b := 0) ha (by decide)).mp ((lg_cmp_eq _ _).mp h)
theorem bm_cmpn {a : Nat} (h : ¬ lg_cmp (lN a) 0 = 0) : ¬ a = 0 := fun z => h (by rw [z]; decide)
theorem bm_mod63 {a b : Nat} (h0 : 0 < b) (hb : b < 2 ^ 31) : a % b < 2 ^ 63 := by have := Nat.mod_lt a h0; omega
theorem bm_cmpE {a b : Nat} (ha : a < 2 ^ 63) (hb : b < 2 ^ 63) (h : lg_cmp (lN a) (lN b) = 0) : a = b := (pk_lEQ ha hb).mp ((lg_cmp_eq _ _).mp h)
theorem bm_cmpNE {a b : Nat} (h : ¬ lg_cmp (lN a) (lN b) = 0) : ¬ a = b := fun z => h ((lg_cmp_eq _ _).mpr (by rw [z]))
end
section
/-! contracts that don't ask whether the class is initialised, and that may end in a throw -/
def bm_End (s t : State) (L : List Loc) (k n : Nat) : Prop := s.WarmedH t.vm ∧ s.sameButNew ({ t with vm := s.vm } : State) L k n
def bm_MQ (below : List Frame) (Qc : Array Value → State → Outcome → State → Prop) (a : Array Value) (s : State) (mc ms : Nat) (free : Addr → Prop) : State → Prop := fun t =>
  ∃ o, t.status = .running ∧ Ended t below o ∧ Qc a s o t ∧ ∃ L, bm_End s t L mc ms ∧ ∀ q ∈ L, free q.base
def bm_MG (l : Launch) (y : MethodName) (ws : List Cond) (rm : Room) (Pc : Array Value → State → Prop) (Qc : Array Value → State → Outcome → State → Prop) (mc ms : Nat) (free : Addr → Prop) : Prop :=
  ∀ (p : Program) (e : Env), l.admits e → FairCas e.choices → FairClock e.choices → ∀ (s : State) (m : MethodId) (args : Array Value) (below : List Frame), s.frames = .invoking m args :: below → s.status = .running → s.curStatus? = some .runnable → s.alone = true → s.methodNamed? y = some m → s.hears m below = true → s.hasRoom e.platform rm = true → (∀ w ∈ ws, w.before args s = true) → Pc args s →
    ∃ (n : Nat) (o : Outcome), (∀ k, k < n → Within (stepsAlone p.tables e k s) below) ∧ (stepsAlone p.tables e n s).status = .running ∧ Ended (stepsAlone p.tables e n s) below o ∧ Qc args s o (stepsAlone p.tables e n s) ∧ ∃ L, bm_End s (stepsAlone p.tables e n s) L mc ms ∧ ∀ q ∈ L, free q.base
theorem bm_mono {p : Program} {l : Launch} {e : Env} {R : Room} {s : State} {m : MethodId} {args : Array Value} {below : List Frame} {meth : Method} {c : Code} {H : Heap} {locs : List Loc} {cells slots : Nat} {Q Q' : State → Prop} {g : JFrame} (h : ∀ t, Q t → Q' t) (w : W p l e R s m args below meth c H locs cells slots Q g) : W p l e R s m args below meth c H locs cells slots Q' g := fun T hT X => by
  obtain ⟨t, a, b⟩ := w T hT X
  exact ⟨t, a, h t b⟩
theorem bm_MQ.of {below : List Frame} {Qc : Array Value → State → Outcome → State → Prop} {a : Array Value} {s : State} {mc ms : Nat} {free : Addr → Prop} (t : State) (h : MQ below Qc a s mc ms free t) : bm_MQ below Qc a s mc ms free t := by
  obtain ⟨o, h1, h2, h3, L, ⟨-, h4, h5⟩, h6⟩ := h
  exact ⟨o, h1, h2, h3, L, ⟨h4, h5⟩, h6⟩
theorem bm_MG.ofW {l : Launch} {y : MethodName} {ws : List Cond} {rm : Room} {Pc : Array Value → State → Prop} {Qc : Array Value → State → Outcome → State → Prop} {mc ms : Nat} {free : Addr → Prop} {cc : ByteArray} {maxL : Nat} {ret : Option FieldType}
    (hy : plainFor y = true)
    (his : ∀ (args : Array Value) (s : State) (m : MethodId), (∀ w ∈ ws, w.before args s = true) → s.methodNamed? y = some m → ∃ meth c, s.vm.method? m = some meth ∧ meth.code = some c ∧ c.code = cc ∧ c.maxLocals = maxL ∧ meth.sig.returnType = ret ∧ meth.locks = false)
    (body : ∀ (p : Program) (e : Env) (s : State) (m : MethodId) (args : Array Value) (below : List Frame) (meth : Method) (c : Code), p.tables.exec = Jvm.exec → c.code = cc → meth.sig.returnType = ret → meth.locks = false → (∀ w ∈ ws, w.before args s = true) → s.methodNamed? y = some m → s.vm.method? m = some meth → meth.code = some c → c.maxLocals = maxL → l.admits e → Pc args s →
      W p l e rm s m args below meth c s.heap [] 0 0 (bm_MQ below Qc args s mc ms free) (entryFrame m args maxL)) : bm_MG l y ws rm Pc Qc mc ms free := by
  intro p e ha hc hk s m args below hf hrun hable halone hname hhears hroom hws hP
  obtain ⟨meth, c, hmeth, hcode, hbytes, hlocals, hret, hlocks⟩ := his args s m hws hname
  have hcur := State.cur_lt_of_frames hf
  have hf1 : (s.setFrames (.java (entryFrame m args maxL) :: below)).frames = .java (entryFrame m args maxL) :: below := State.frames_setFrames _ hcur
  have ht1 := State.topJava?_of_frames hf1
  have hplain : (s.setFrames (.java (entryFrame m args maxL) :: below)).plainMethod m := State.plainMethod.of_named (s := s) hy hname hmeth
  have hAt : At (s.setFrames (.java (entryFrame m args maxL) :: below)) m c below :=
    ⟨by rw [ht1]; rfl, ⟨[], by rw [hf1]; rfl⟩, hrun, by simpa using hable, by simpa using halone,
      by rw [State.code?_eq]; simp [State.setFrames, hmeth, hcode], hplain⟩
  have hstep : (stepThread p.tables e s).1 = (s.setFrames (.java (entryFrame m args maxL) :: below)).setTop (entryFrame m args maxL) := by
    have hfull : e.platform.stackFull (s.setFrames below).me (s.setFrames below).frames c.maxLocals = false := by
      obtain ⟨-, h1, -, h2⟩ := State.hasRoom_stack hroom
      rw [hf, List.length_cons] at h1
      rw [State.localsInUse_invoking hf hmeth hcode] at h2
      have hw := stackUse_le_stackWeight below
      rw [State.frames_setFrames _ hcur]
      exact Platform.stackFull_eq_false (by rw [State.stackLimits_setFrames]; omega) (by rw [State.stackLimits_setFrames]; omega)
    rw [stepThread_invoking hf, (doInvoke_java (s := s.setFrames below) (e := e) (meth := meth) (code := c) hmeth hcode hlocks hfull).1, State.setTop_self ht1]
    simp only [State.pushFrame, State.frames_setFrames _ hcur, State.setFrames_setFrames, hlocals, entryFrame]
  obtain ⟨t, ht, -⟩ := State.frames_cons hf
  have X : Stand p l e rm s m args below meth c (s.setFrames (.java (entryFrame m args maxL) :: below)) [] 0 0 :=
    ⟨ha, hc, hk, hf, hroom, hhears, hmeth, hcode, hAt, by rw [hf1]; rfl, State.WarmedH.refl s, by rw [State.stackLimits_setFrames], by rw [State.stackBytes_setFrames], (State.sameButNew.refl s ht).setFrames (.java (entryFrame m args maxL) :: below) hcur⟩
  obtain ⟨s₂, hs, o, hr, he, hq⟩ := body p e s m args below meth c (by cases p <;> rfl) hbytes hret hlocks hws hname hmeth hcode hlocals ha hP (s.setFrames (.java (entryFrame m args maxL) :: below)) rfl X
  obtain ⟨n, hn, hw⟩ := Steps.head (tb := p.tables) (e := e) ⟨hrun, hable, halone⟩ ⟨[.invoking m args], hf, by simp, by simp⟩ (hstep ▸ hs)
  exact ⟨n, o, hw, hn ▸ hr, hn ▸ he, hn ▸ hq⟩
theorem bm_hisC {y : MethodName} {cc : ByteArray} {maxL : Nat} {ret : Option FieldType} (args : Array Value) (s : State) (m : MethodId) (h : ∀ w ∈ bm_ws y cc maxL ret, w.before args s = true) (hn : s.methodNamed? y = some m) : ∃ meth c, s.vm.method? m = some meth ∧ meth.code = some c ∧ c.code = cc ∧ c.maxLocals = maxL ∧ meth.sig.returnType = ret ∧ meth.locks = false := by
  obtain ⟨meth, c, h1, h2, h3, h4, h5, h6, -, -⟩ := Cond.code_spec hn (h _ List.mem_cons_self)
  exact ⟨meth, c, h1, h2, h3, h4, h5, h6⟩
/-- a call's outcome at the caller's place -/
theorem bm_goG {l : Launch} {R : Room} {p : Program} {e : Env} {below : List Frame} {s : State} {sargs : Array Value} {y : MethodName} {len Wt : Nat} {ws : List Cond} {rm : Room} {Pc : Array Value → State → Prop} {Qc : Array Value → State → Outcome → State → Prop} {mc ms : Nat} {free : Addr → Prop} {maxL : Nat} {m : MethodId} {meth : Method} {c : Code} {U : State} {Ls : List Loc} {c0 s0 : Nat} {g : JFrame} {ig : Instr} {mk : MethodId} {a : Array Value}
    (hM : bm_MG l y ws rm Pc Qc mc ms free) (hblind : FrameBlind Pc) (hrc : rm.cells = mc) (hrs : rm.slots = ms) (hframes : rm.frames + 1 ≤ R.frames) (hlocals : Wt + (maxL + 11) + rm.locals ≤ R.locals)
    (hws : ∀ w ∈ ws, ∀ (a' : Array Value) (V : State), s.WarmedH V.vm → w.before a' V = true)
    (his : ∀ (args : Array Value) (s : State) (m : MethodId), (∀ w ∈ ws, w.before args s = true) → s.methodNamed? y = some m → ∃ meth c, s.vm.method? m = some meth ∧ meth.code = some c ∧ c.maxLocals = maxL)
    (X : Stand p l e R s m sargs below meth c U Ls c0 s0) (hg : g.method = m) (hsize : g.locals.size = c.maxLocals) (hdg : decode c.code g.pc = .ok (ig, len)) (hWt : 2 * g.monitorRoom + (g.stack.map fun v => v.category).sum ≤ Wt) (hn : U.methodNamed? y = some mk) (h4 : c0 + mc ≤ R.cells) (h5 : s0 + ms ≤ R.slots) (hp : Pc a U) :
    ∃ (o : Outcome) (s₂ : State) (L : List Loc), Steps p.tables e below (doInvoke e (U.setTop g) [] mk a).1 s₂ ∧ Ended s₂ (.java g :: below) o ∧ Qc a (U.calling g mk a) o s₂ ∧ bm_End (U.calling g mk a) s₂ L mc ms ∧ ∀ q ∈ L, free q.base := by
  obtain ⟨methY, cY, hmY, hcY, hlY⟩ := his a U mk (fun w hw => hws w hw _ _ X.warmed) hn
  have h : At U g.method c below := by rw [hg]; exact X.here
  have hroom := X.room_calling (g := g) (R' := rm) (args' := a) hsize hmY hcY hframes (by rw [hlY]; omega) (by rw [hrc]; exact h4) (by rw [hrs]; exact h5)
  have hcode : (U.calling g mk a).code? g.method = some c := by
    have := h.code
    rw [State.code?_eq] at this ⊢
    simpa [State.calling, State.pushFrame, State.setFrames] using this
  have hf' := State.frames_calling h.top g mk a
  have e1 : (U.calling g mk a).status = .running := h.running
  have e2 : (U.calling g mk a).curStatus? = some .runnable := by simpa [State.calling] using h.runnable
  have e3 : (U.calling g mk a).alone = true := by simpa [State.calling] using h.alone
  have hS0 : (U.setTop g).frames = .java g :: below := by rw [State.frames_setTop' g h.top, X.tail]
  have hfr : (U.calling g mk a).frames = .invoking mk a :: (.java g :: below) := by rw [hf', X.tail]
  have e4 : (U.calling g mk a).hears mk (.java g :: below) = true := by
    simp [State.hears, hcode, hdg, Except.toOption]
  obtain ⟨n, o, hw, hr, he, hq, L, hE, hL⟩ := hM p e X.admits X.cas X.clock (U.calling g mk a) mk a (.java g :: below) hfr e1 e2 e3 hn e4 hroom (fun w hw => by rw [State.calling_eq h.top, Cond.before_setFrames]; exact hws w hw _ _ X.warmed) (hblind _ _ _ _ hp)
  have hgo : (U.calling g mk a).goesOn := ⟨e1, e2, e3⟩
  obtain ⟨t, ht, -⟩ := State.frames_cons hS0
  have hstep : (stepThread p.tables e (U.calling g mk a)).1 = (doInvoke e (U.setTop g) [] mk a).1 := by
    rw [stepThread_invoking hfr]
    show (doInvoke e (((U.setTop g).pushFrame (.invoking mk a)).setFrames (.java g :: below)) [] mk a).1 = _
    rw [State.pushFrame, State.setFrames_setFrames, ← hS0, State.setFrames_self ht]
  cases n with
  | zero => exact absurd ⟨[.invoking mk a], hfr, by simp, by simp⟩ he.not_within
  | succ k =>
    rw [stepsAlone_succ _ hgo, hstep] at hr he hq hE
    refine ⟨o, _, L, ⟨k, rfl, fun j hj => ?_⟩, he, hq, hE, hL⟩
    have h9 := hw (j + 1) (by omega)
    rw [stepsAlone_succ _ hgo, hstep] at h9
    exact (show Within _ ([.java g] ++ below) from h9).weaken
end
section
theorem bm_backR {l : Launch} {R : Room} {p : Program} {e : Env} {below : List Frame} {s : State} {sargs : Array Value} {y : MethodName} {len Wt : Nat} {ws : List Cond} {rm : Room} {Pc : Array Value → State → Prop} {Qc : Array Value → State → Outcome → State → Prop} {mc ms : Nat} {free : Addr → Prop} {maxL : Nat}
    (hM : bm_MG l y ws rm Pc Qc mc ms free) (hret : ∀ a st o t, Qc a st o t → ∃ v, o = .returned v) (hblind : FrameBlind Pc) (hrc : rm.cells = mc) (hrs : rm.slots = ms) (hframes : rm.frames + 1 ≤ R.frames) (hlocals : Wt + (maxL + 11) + rm.locals ≤ R.locals)
    (hws : ∀ w ∈ ws, ∀ (a' : Array Value) (V : State), s.WarmedH V.vm → w.before a' V = true)
    (his : ∀ (args : Array Value) (s : State) (m : MethodId), (∀ w ∈ ws, w.before args s = true) → s.methodNamed? y = some m → ∃ meth c, s.vm.method? m = some meth ∧ meth.code = some c ∧ c.maxLocals = maxL) :
    Back l R p e below s sargs y len Wt (PreOf R mc ms Pc) (PostOf Qc mc ms free) := by
  intro m meth c A g ig mk a X hg hsize hdg hW hn hp
  obtain ⟨U, Ls, c0, s0⟩ := A
  dsimp only [Pt.U, Pt.locs, Pt.cells, Pt.slots] at X hn ⊢
  obtain ⟨h4, h5, hp⟩ := hp
  obtain ⟨o, s₂, L, hsteps, hend, hq, hE, hL⟩ := bm_goG (maxL := maxL) hM hblind hrc hrs hframes hlocals hws his X hg hsize hdg hW hn h4 h5 hp
  obtain ⟨v, rfl⟩ := hret _ _ _ _ hq
  obtain ⟨hW₂, e2, q2, q3, q4, q5, q6⟩ := id hE
  have h : At U g.method c below := by rw [hg]; exact X.here
  have e3 : s₂ = ({ (U.calling g mk a).setFrames s₂.frames with heap := s₂.heap, slotsUsed := s₂.slotsUsed } : State).setVm s₂.vm := by
    have : s₂ = ({ s₂ with vm := (U.calling g mk a).vm } : State).setVm s₂.vm := rfl
    rw [e2] at this
    exact this
  obtain ⟨c₂, i₂, len₂, hc₂, hd₂, hf₂⟩ := hend
  have hW' : U.WarmedH s₂.vm := hW₂
  have hcc : c₂ = c := by
    have h1 : s₂.code? g.method = U.code? g.method := by
      rw [State.code?_eq, State.code?_eq, hW'.alike.method?]
    exact Option.some.inj (hc₂.symm.trans (h1.trans h.code))
  subst hcc
  have hlen : len₂ = len := by rw [hdg] at hd₂; cases hd₂; rfl
  subst hlen
  obtain ⟨g₀, hg0⟩ := Option.isSome_iff_exists.mp h.top
  obtain ⟨r, hr⟩ := State.topJava?_eq_some.mp hg0
  have hrb : r = below := by
    have := X.tail
    rw [hr] at this
    exact this
  have hs₂ : s₂ = (({ U with heap := s₂.heap, slotsUsed := s₂.slotsUsed } : State).setVm s₂.vm).setTop { g with pc := g.pc + len₂, stack := v.toList ++ g.stack } := by
    have hr' : (({ U with heap := s₂.heap, slotsUsed := s₂.slotsUsed } : State).setVm s₂.vm).frames = .java g₀ :: r := hr
    refine e3.trans ?_
    rw [hf₂, State.calling_eq h.top, State.setFrames_setFrames, State.setTop_of_frames _ hr', hrb]
    rfl
  have hsame : U.sameButNew ({ U with heap := s₂.heap, slotsUsed := s₂.slotsUsed } : State) L mc ms := by
    refine ⟨?_, q2, q3, q4, q5, q6⟩
    obtain ⟨t, ht, -⟩ := State.frames_cons hr
    show ({ U with heap := s₂.heap, slotsUsed := s₂.slotsUsed } : State) = { U.setFrames U.frames with heap := s₂.heap, slotsUsed := s₂.slotsUsed }
    rw [State.setFrames_self ht]
  subst hg
  refine ⟨v, ⟨(({ U with heap := s₂.heap, slotsUsed := s₂.slotsUsed } : State).setVm s₂.vm), Ls ++ L, c0 + mc, s0 + ms⟩,
    ⟨X.admits, X.cas, X.clock, X.frames, X.room, X.hears, X.method, X.code, (X.here.setHeapUsed s₂.heap s₂.slotsUsed).setVm hW'.alike, X.tail, State.WarmedH.trans X.warmed hW', X.limits, X.bytes, X.same.trans (hsame.setVm s.vm)⟩,
    ⟨g, mk, s₂, L, rfl, rfl, hq, rfl, hL, rfl, rfl⟩, ?_⟩
  show Steps p.tables e below _ ((({ U with heap := s₂.heap, slotsUsed := s₂.slotsUsed } : State).setVm s₂.vm).setTop { g with pc := g.pc + len₂, stack := v.toList ++ g.stack })
  rw [← hs₂]
  exact hsteps
theorem bm_wsW {s : State} {args : Array Value} {y : MethodName} {cc : ByteArray} {maxL : Nat} {ret : Option FieldType} (hts : ∀ w ∈ bm_big, w.before args s = true) (hc : Cond.code y cc maxL ret ∈ bm_big) : ∀ w ∈ bm_ws y cc maxL ret, ∀ (a' : Array Value) (V : State), s.WarmedH V.vm → w.before a' V = true := pay_in hts (bm_goodW hc)
theorem bm_hisC' {y : MethodName} {cc : ByteArray} {maxL : Nat} {ret : Option FieldType} (args : Array Value) (s : State) (m : MethodId) (h : ∀ w ∈ bm_ws y cc maxL ret, w.before args s = true) (hn : s.methodNamed? y = some m) : ∃ meth c, s.vm.method? m = some meth ∧ meth.code = some c ∧ c.maxLocals = maxL := by
  obtain ⟨meth, c, h1, h2, -, h4, -⟩ := bm_hisC args s m h hn
  exact ⟨meth, c, h1, h2, h4⟩
theorem bm_Post.ret {D : va_G} {base : Nat} {post : Option Value → bm_Map → Nat → Prop} : ∀ a st o t, bm_Post D base post a st o t → ∃ v, o = .returned v := fun _ _ _ _ h => by
  obtain ⟨v, -, h1, -⟩ := h
  exact ⟨v, h1⟩
section BMG
variable {p : Program} {l : Launch} {e : Env} {R : Room} {s : State} {m : MethodId} {args : Array Value} {below : List Frame} {meth : Method} {c : Code} {H : Heap} {locs : List Loc} {cells slots : Nat} {Q : State → Prop}
variable {y : MethodName} {bytes cc : ByteArray} {maxL nL mc ms n index : Nat} {ret : Option FieldType} {rm : Room} {Pc : Array Value → State → Prop} {Qc : Array Value → State → Outcome → State → Prop} {free : Addr → Prop} {own C : String} {b : Addr} {As rest : List Value} {g : JFrame}
theorem bm_runVG (S : CallFix p m c cc nL s args bm_big own) (hM : bm_MG l y (bm_ws y bytes maxL ret) rm Pc Qc mc ms free) (hret : ∀ a st o t, Qc a st o t → ∃ v, o = .returned v) (h1 : Cond.methodLink own index y ∈ bm_big) (h2 : Cond.instanceMethod y ∈ bm_big) (h3 : Cond.selects C y y ∈ bm_big) (h4 : Cond.code y bytes maxL ret ∈ bm_big) (hrc : rm.cells = mc) (hrs : rm.slots = ms)
    (hd : y.cls ≠ "java/lang/invoke/MethodHandle" ∧ y.cls ≠ "java/lang/invoke/VarHandle" ∧ (parseMethodDescriptor y.desc).map (fun d => d.parameters.length) = some n) (hR : rm.frames + 1 ≤ R.frames ∧ 8 + (maxL + 11) + rm.locals ≤ R.locals) (hp : PreV s H C b Pc As)
    (hg : g.method = m) (hn : As.length = n) (hsize : g.locals.size = nL) (hstack : g.stack = As.reverse ++ .ref b :: rest) (hW : 2 * g.monitorRoom + (rest.map fun v => v.category).sum ≤ 8) (hdg : decode cc g.pc = .ok (.invokevirtual index, 3)) (hf : cells + mc ≤ R.cells ∧ slots + ms ≤ R.slots) :
    va_Run p l e R s m args below meth c H locs cells slots mc ms g rest (Qc (Value.ref b :: As).toArray) (free) := by
  obtain ⟨hx, hb, hml, ho, hts⟩ := S
  have hK : Back l R p e below s args y 3 8 (PreOf R mc ms Pc) (PostOf Qc mc ms free) := bm_backR hM hret hp.1 hrc hrs hR.1 hR.2 (bm_wsW hts h4) bm_hisC'
  obtain ⟨-, ⟨cellB, hcB, hoB, hclB⟩, hPc⟩ := hp
  intro T hT X
  obtain ⟨v, vm₁, ⟨U', l2, c2, s2⟩, hW₁, X', ⟨g', mk, t, L, e1, e2, hq, h1, hL, h2, h3⟩, st⟩ := callV X hx (C := C) (bytes := bytes) (maxL := maxL) (ret := ret) ho (hts _ h1) (hts _ h2) (hts _ h3) (hts _ h4) ⟨hd.1, hd.2.1⟩ hK (by rw [hT]; exact hcB) hoB hclB hg (hsize.trans hml.symm) (argsL := As) (rest := rest) (fun sig h => hn.trans (by have h2 := hd.2.2; rw [h] at h2; exact (Option.some.inj h2).symm)) hstack hW (by rw [hb]; exact hdg)
    (fun vm₁ hW₁ => ⟨hf.1, hf.2, hPc (T.setVm vm₁) hT hW₁⟩)
  dsimp only [Pt.U, Pt.locs, Pt.cells, Pt.slots] at X' e1 e2 h1 h2 h3 st
  subst h1; subst h2; subst h3
  exact ⟨v, (T.setVm vm₁).calling g' mk (Value.ref b :: As).toArray, t, U', L, hT, X', hL, e1, e2, hq, st⟩
end BMG
/-- a head without ripeness -/
theorem bm_ofG {l : Launch} {y : MethodName} {rm : Room} {D : va_G} {ct : Nat → ClassId} {base : Nat} {ad : Nat → Nat} {M : bm_Map} {sz : Nat} {av : List Value} {post : Option Value → bm_Map → Nat → Prop} {mc ms : Nat} {cc : ByteArray} {maxL : Nat} {ret : Option FieldType}
    (hy : plainFor y = true) (hlen : (lg_sl av).length ≤ maxL)
    (body : ∀ (p : Program) (e : Env) (s : State) (m : MethodId) (args : Array Value) (below : List Frame) (meth : Method) (c : Code), p.tables.exec = Jvm.exec → c.code = cc → meth.sig.returnType = ret → meth.locks = false → (∀ w ∈ bm_big, w.before args s = true) → s.vm.findClass y.cls = some m.cls → c.maxLocals = maxL → meth.name = y.name →
      ∀ ls : Array Slot, lv_has ls maxL (lv_args 0 av) → s.heap.size = sz → bm_M D base M s.heap → bm_G D ct base ad s → ∀ (R : Room) (Q : State → Prop), rm = R → MQ below (bm_Post D base post) args s mc ms (bm_A base) = Q → W p l e R s m args below meth c s.heap [] 0 0 Q (F0 m 0 ls [])) :
    bm_MG l y (bm_ws y cc maxL ret) rm (bm_Pre D ct base ad M sz av) (bm_Post D base post) mc ms (bm_A base) := by
  refine bm_MG.ofW hy bm_hisC ?_
  intro p e s m args below meth c hx hb hr hlk hws hn hm hc hml _ hv
  obtain ⟨rfl, hsz, hM, hG⟩ := hv
  rw [lg_entry_eq]
  exact bm_mono bm_MQ.of (body p e s m _ below meth c hx hb hr hlk (fun w h => hws w (List.mem_cons_of_mem _ h)) (findClass_of_methodNamed hn) hml (name_of_methodNamed hn hm).1 _ (lv_entry av hlen) hsz hM hG _ _ rfl rfl)
end
section
set_option maxHeartbeats 4000000 in
set_option maxRecDepth 100000 in
theorem bc_D_join_le (l : Launch) (D : va_G) (ct : Nat → ClassId) (base : Nat) (ad : Nat → Nat) (M : bm_Map) (sz : Nat) (d x y : Nat) (hd : d < 3) (hxy : x ≤ y) (hx1 : x < 2 ^ 30) (hy1 : y < 2 ^ 30) : bm_MG l yD_join (bm_ws yD_join cD_join 7 (some .long)) { frames := 3, cells := 0, slots := 0, locals := 77 } (bm_Pre D ct base ad M sz [.ref (ad d), .long (lN x), .long (lN y)]) (bm_Post D base (bm_Is (some (.long (lN (bm_jd d x y)))) M sz)) 0 0 (bm_A base) := by
  refine bm_ofG (cc := cD_join) (maxL := 7) (ret := (some .long)) (by decide +kernel) (Nat.le_of_ble_eq_true rfl) ?_
  intro vp ve s vm args below meth vc hx hb hr hlk hts hown hml hnm ls hl hz hM hG R Q hR hQ
  have hown : s.vm.findClass "BlindMint$Denomination" = some vm.cls := hown
  have hK := hG.K
  have hS : va_S (bm_A base) s.heap s.heap [] := va_S.rf
  have hl : lv_has ls 7 [(0, .ref (ad d)), (1, .long (lN x)), (3, .long (lN y))] := hl
  have hpb := bm_pb d
  have hqb := bm_qb d
  refine lv_lload_n hx hb dD_join_0 rfl (lv_at hl 2 rfl) ?_
  refine lv_lload_n hx hb dD_join_1 rfl (lv_at hl 1 rfl) ?_
  refine lv_lsub hx hb dD_join_2 ?_
  refine lv_topl (fun t1 e_t1 => ?_)
  have e_t1 : t1 = lN (y - x) := by rw [e_t1]; exact lN_sub hxy
  subst e_t1
  refine lv_aload_n hx hb dD_join_3 rfl (lv_at hl 0 rfl) ?_
  refine va_getX (i := d) hx hb hG.2.2.2.2.2.2.2.2 (by omega) hS hown (hts _ bw_837) (fun _ h9 => h9) dD_join_4 ?_
  refine bm_callE (va_runS (As := [.long (lN (y - x)), .long (lN (bm_q d))]) (rest := []) ⟨hx, hb, hml, hown, hts⟩ (bc_J_floorMod_le l D ct base ad M sz (y - x) (bm_q d) (by omega) (by omega) (by omega)) (va_cwS 2 hts (bm_goodS bw_383 bw_384 bw_13 bw_385) rfl rfl rfl (by decide +kernel) (by rw [← hR]; exact ⟨Nat.le_of_ble_eq_true rfl, Nat.le_of_ble_eq_true rfl⟩)) (bm_preS hM hG hS hz) rfl rfl hl.1 rfl (lv_room (Nat.le_of_ble_eq_true rfl)) dD_join_7 (by rw [← hR]; exact ⟨Nat.le_of_ble_eq_true rfl, Nat.le_of_ble_eq_true rfl⟩)) hS (fun H locs hz hM hS => ?_)
  refine lv_topl (fun t2 e_t2 => ?_)
  have e_t2 : t2 = lN (bm_fm (bm_q d) x y) := by rw [e_t2]; rw [bm_fm_le (by omega) hxy]
  subst e_t2
  refine lv_aload_n hx hb dD_join_10 rfl (lv_at hl 0 rfl) ?_
  refine va_getX (i := d) hx hb hG.2.2.2.2.2.2.2.1 (by omega) hS hown (hts _ bw_836) (fun _ h9 => h9) dD_join_11 ?_
  refine lv_aload_n hx hb dD_join_14 rfl (lv_at hl 0 rfl) ?_
  refine va_getX (i := d) hx hb hG.2.2.2.2.2.2.2.2 (by omega) hS hown (hts _ bw_837) (fun _ h9 => h9) dD_join_15 ?_
  have hfm : bm_fm (bm_q d) x y < bm_q d := bm_fm_lt (by omega)
  refine bm_callE (va_runS (As := [.long (lN (bm_fm (bm_q d) x y)), .long (lN (bm_p d)), .long (lN (bm_q d))]) (rest := []) ⟨hx, hb, hml, hown, hts⟩ (bc_F_divide l D ct base ad M sz (bm_fm (bm_q d) x y) (bm_p d) (bm_q d) (by omega) (by omega) (by omega) (by omega)) (va_cwS 3 hts (bm_goodS bw_386 bw_387 bw_12 bw_388) rfl rfl rfl (by decide +kernel) (by rw [← hR]; exact ⟨Nat.le_of_ble_eq_true rfl, Nat.le_of_ble_eq_true rfl⟩)) (bm_preS hM hG hS hz) rfl rfl hl.1 rfl (lv_room (Nat.le_of_ble_eq_true rfl)) dD_join_18 (by rw [← hR]; exact ⟨Nat.le_of_ble_eq_true rfl, Nat.le_of_ble_eq_true rfl⟩)) hS (fun H locs hz hM hS => ?_)
  refine lv_topl (fun t3 e_t3 => ?_)
  have e_t3 : t3 = lN (bm_fm (bm_q d) x y * (bm_p d ^ (bm_q d - 2) % bm_q d) % bm_q d) := by rw [e_t3]; rw [bm_fm_steps]
  subst e_t3
  refine lv_lstore hx hb dD_join_21 hl (by decide) rfl (fun ls hl => ?_)
  have hl : lv_has ls 7 [(5, .long (lN (bm_fm (bm_q d) x y * (bm_p d ^ (bm_q d - 2) % bm_q d) % bm_q d))), (0, .ref (ad d)), (1, .long (lN x)), (3, .long (lN y))] := hl
  refine lv_lload_n hx hb dD_join_23 rfl (lv_at hl 2 rfl) ?_
  refine lv_aload_n hx hb dD_join_24 rfl (lv_at hl 1 rfl) ?_
  refine va_getX (i := d) hx hb hG.2.2.2.2.2.2.2.1 (by omega) hS hown (hts _ bw_836) (fun _ h9 => h9) dD_join_25 ?_
  refine lv_lload hx hb dD_join_28 (lv_at hl 0 rfl) ?_
  refine lv_lmul hx hb dD_join_30 ?_
  refine lv_ladd hx hb dD_join_31 ?_
  refine lv_topl (fun t4 e_t4 => ?_)
  have e_t4 : t4 = lN (bm_jd d x y) := by rw [e_t4]; rw [lN_mul, lN_add]; rfl
  subst e_t4
  exact bm_lret hQ hx hb hr hlk hM hS ⟨rfl, rfl, hz⟩ (Nat.le_refl _) (Nat.le_refl _) dD_join_32
set_option maxHeartbeats 4000000 in
set_option maxRecDepth 100000 in
theorem bc_D_join_gt (l : Launch) (D : va_G) (ct : Nat → ClassId) (base : Nat) (ad : Nat → Nat) (M : bm_Map) (sz : Nat) (d x y : Nat) (hd : d < 3) (hxy : y < x) (hx1 : x < 2 ^ 30) (hy1 : y < 2 ^ 30) : bm_MG l yD_join (bm_ws yD_join cD_join 7 (some .long)) { frames := 3, cells := 0, slots := 0, locals := 77 } (bm_Pre D ct base ad M sz [.ref (ad d), .long (lN x), .long (lN y)]) (bm_Post D base (bm_Is (some (.long (lN (bm_jd d x y)))) M sz)) 0 0 (bm_A base) := by
  refine bm_ofG (cc := cD_join) (maxL := 7) (ret := (some .long)) (by decide +kernel) (Nat.le_of_ble_eq_true rfl) ?_
  intro vp ve s vm args below meth vc hx hb hr hlk hts hown hml hnm ls hl hz hM hG R Q hR hQ
  have hown : s.vm.findClass "BlindMint$Denomination" = some vm.cls := hown
  have hK := hG.K
  have hS : va_S (bm_A base) s.heap s.heap [] := va_S.rf
  have hl : lv_has ls 7 [(0, .ref (ad d)), (1, .long (lN x)), (3, .long (lN y))] := hl
  have hpb := bm_pb d
  have hqb := bm_qb d
  refine lv_lload_n hx hb dD_join_0 rfl (lv_at hl 2 rfl) ?_
  refine lv_lload_n hx hb dD_join_1 rfl (lv_at hl 1 rfl) ?_
  refine lv_lsub hx hb dD_join_2 ?_
  refine lv_topl (fun t1 e_t1 => ?_)
  have e_t1 : t1 = -(lN (x - y)) := by rw [e_t1]; exact bm_sub_neg hxy
  subst e_t1
  refine lv_aload_n hx hb dD_join_3 rfl (lv_at hl 0 rfl) ?_
  refine va_getX (i := d) hx hb hG.2.2.2.2.2.2.2.2 (by omega) hS hown (hts _ bw_837) (fun _ h9 => h9) dD_join_4 ?_
  refine bm_callE (va_runS (As := [.long (-(lN (x - y))), .long (lN (bm_q d))]) (rest := []) ⟨hx, hb, hml, hown, hts⟩ (bc_J_floorMod_gt l D ct base ad M sz (x - y) (bm_q d) (by omega) (by omega) (by omega) (by omega)) (va_cwS 2 hts (bm_goodS bw_383 bw_384 bw_13 bw_385) rfl rfl rfl (by decide +kernel) (by rw [← hR]; exact ⟨Nat.le_of_ble_eq_true rfl, Nat.le_of_ble_eq_true rfl⟩)) (bm_preS hM hG hS hz) rfl rfl hl.1 rfl (lv_room (Nat.le_of_ble_eq_true rfl)) dD_join_7 (by rw [← hR]; exact ⟨Nat.le_of_ble_eq_true rfl, Nat.le_of_ble_eq_true rfl⟩)) hS (fun H locs hz hM hS => ?_)
  refine lv_topl (fun t2 e_t2 => ?_)
  have e_t2 : t2 = lN (bm_fm (bm_q d) x y) := by rw [e_t2]; rw [bm_fm_gt (by omega) hxy]
  subst e_t2
  refine lv_aload_n hx hb dD_join_10 rfl (lv_at hl 0 rfl) ?_
  refine va_getX (i := d) hx hb hG.2.2.2.2.2.2.2.1 (by omega) hS hown (hts _ bw_836) (fun _ h9 => h9) dD_join_11 ?_
  refine lv_aload_n hx hb dD_join_14 rfl (lv_at hl 0 rfl) ?_
  refine va_getX (i := d) hx hb hG.2.2.2.2.2.2.2.2 (by omega) hS hown (hts _ bw_837) (fun _ h9 => h9) dD_join_15 ?_
  have hfm : bm_fm (bm_q d) x y < bm_q d := bm_fm_lt (by omega)
  refine bm_callE (va_runS (As := [.long (lN (bm_fm (bm_q d) x y)), .long (lN (bm_p d)), .long (lN (bm_q d))]) (rest := []) ⟨hx, hb, hml, hown, hts⟩ (bc_F_divide l D ct base ad M sz (bm_fm (bm_q d) x y) (bm_p d) (bm_q d) (by omega) (by omega) (by omega) (by omega)) (va_cwS 3 hts (bm_goodS bw_386 bw_387 bw_12 bw_388) rfl rfl rfl (by decide +kernel) (by rw [← hR]; exact ⟨Nat.le_of_ble_eq_true rfl, Nat.le_of_ble_eq_true rfl⟩)) (bm_preS hM hG hS hz) rfl rfl hl.1 rfl (lv_room (Nat.le_of_ble_eq_true rfl)) dD_join_18 (by rw [← hR]; exact ⟨Nat.le_of_ble_eq_true rfl, Nat.le_of_ble_eq_true rfl⟩)) hS (fun H locs hz hM hS => ?_)
  refine lv_topl (fun t3 e_t3 => ?_)
  have e_t3 : t3 = lN (bm_fm (bm_q d) x y * (bm_p d ^ (bm_q d - 2) % bm_q d) % bm_q d) := by rw [e_t3]; rw [bm_fm_steps]
  subst e_t3
  refine lv_lstore hx hb dD_join_21 hl (by decide) rfl (fun ls hl => ?_)
  have hl : lv_has ls 7 [(5, .long (lN (bm_fm (bm_q d) x y * (bm_p d ^ (bm_q d - 2) % bm_q d) % bm_q d))), (0, .ref (ad d)), (1, .long (lN x)), (3, .long (lN y))] := hl
  refine lv_lload_n hx hb dD_join_23 rfl (lv_at hl 2 rfl) ?_
  refine lv_aload_n hx hb dD_join_24 rfl (lv_at hl 1 rfl) ?_
  refine va_getX (i := d) hx hb hG.2.2.2.2.2.2.2.1 (by omega) hS hown (hts _ bw_836) (fun _ h9 => h9) dD_join_25 ?_
  refine lv_lload hx hb dD_join_28 (lv_at hl 0 rfl) ?_
  refine lv_lmul hx hb dD_join_30 ?_
  refine lv_ladd hx hb dD_join_31 ?_
  refine lv_topl (fun t4 e_t4 => ?_)
  have e_t4 : t4 = lN (bm_jd d x y) := by rw [e_t4]; rw [lN_mul, lN_add]; rfl
  subst e_t4
  exact bm_lret hQ hx hb hr hlk hM hS ⟨rfl, rfl, hz⟩ (Nat.le_refl _) (Nat.le_refl _) dD_join_32
theorem bc_D_join (l : Launch) (D : va_G) (ct : Nat → ClassId) (base : Nat) (ad : Nat → Nat) (M : bm_Map) (sz : Nat) (d x y : Nat) (hd : d < 3) (hx1 : x < 2 ^ 30) (hy1 : y < 2 ^ 30) : bm_MG l yD_join (bm_ws yD_join cD_join 7 (some .long)) { frames := 3, cells := 0, slots := 0, locals := 77 } (bm_Pre D ct base ad M sz [.ref (ad d), .long (lN x), .long (lN y)]) (bm_Post D base (bm_Is (some (.long (lN (bm_jd d x y)))) M sz)) 0 0 (bm_A base) := by
  by_cases h : x ≤ y
  · exact bc_D_join_le l D ct base ad M sz d x y hd h hx1 hy1
  · exact bc_D_join_gt l D ct base ad M sz d x y hd (Nat.lt_of_not_le h) hx1 hy1
set_option maxHeartbeats 4000000 in
set_option maxRecDepth 100000 in
theorem bc_D_blindingFactor (l : Launch) (D : va_G) (ct : Nat → ClassId) (base : Nat) (ad : Nat → Nat) (M : bm_Map) (sz : Nat) (d r : Nat) (hd : d < 3) (hr1 : r < 2 ^ 60) : bm_MG l yD_blindingFactor (bm_ws yD_blindingFactor cD_blindingFactor 6 (some .long)) { frames := 0, cells := 0, slots := 0, locals := 0 } (bm_Pre D ct base ad M sz [.ref (ad d), .long (lN r)]) (bm_Post D base (bm_Is (some (.long (lN (bm_bf d r)))) M sz)) 0 0 (bm_A base) := by
  refine bm_ofG (cc := cD_blindingFactor) (maxL := 6) (ret := (some .long)) (by decide +kernel) (Nat.le_of_ble_eq_true rfl) ?_
  intro vp ve s vm args below meth vc hx hb hr hlk hts hown hml hnm ls hl hz hM hG R Q hR hQ
  have hown : s.vm.findClass "BlindMint$Denomination" = some vm.cls := hown
  have hK := hG.K
  have hS : va_S (bm_A base) s.heap s.heap [] := va_S.rf
  have hl : lv_has ls 6 [(0, .ref (ad d)), (1, .long (lN r))] := hl
  have hpb := bm_pb d
  have hqb := bm_qb d
  refine lv_lload_n hx hb dD_blindingFactor_0 rfl (lv_at hl 1 rfl) ?_
  refine lv_lstore_n hx hb dD_blindingFactor_1 rfl hl (by decide) rfl (fun ls hl => ?_)
  have hl : lv_has ls 6 [(3, .long (lN r)), (0, .ref (ad d)), (1, .long (lN r))] := hl
  refine lv_iconst (v := 0) hx hb dD_blindingFactor_2 (by decide) ?_
  refine lv_istore hx hb dD_blindingFactor_3 hl (by decide) rfl (fun ls hl => ?_)
  have hl : lv_has ls 6 [(5, .int 0), (3, .long (lN r)), (0, .ref (ad d)), (1, .long (lN r))] := hl
  refine lv_iload hx hb dD_blindingFactor_5 (lv_at hl 0 rfl) ?_
  refine lv_iconst (v := 2) hx hb dD_blindingFactor_7 (by decide) ?_
  refine lv_icmp_ge (tgt := 43) hx hb dD_blindingFactor_8 rfl (fun h => absurd h (by decide)) (fun _ => ?_)
  refine lv_lload_n hx hb dD_blindingFactor_11 rfl (lv_at hl 1 rfl) ?_
  refine lv_aload_n hx hb dD_blindingFactor_12 rfl (lv_at hl 2 rfl) ?_
  refine va_getX (i := d) hx hb hG.2.2.2.2.2.2.2.1 (by omega) hS hown (hts _ bw_836) (fun _ h9 => h9) dD_blindingFactor_13 ?_
  refine lv_lrem hx hb dD_blindingFactor_16 (bm_lN_ne (by omega) (by omega)) ?_
  refine lv_topl (fun t1 e_t1 => ?_)
  have e_t1 : t1 = lN ((r) % bm_p d) := by rw [e_t1]; rw [pk_lRem (by omega) (by omega) (by omega)]
  subst e_t1
  refine lv_lconst (v := 0) hx hb dD_blindingFactor_17 (by decide) ?_
  refine W.lcmp hx hb dD_blindingFactor_18 ?_
  refine lv_if_eq (tgt := 33) hx hb dD_blindingFactor_19 rfl (fun h19 => ?_) (fun h19 => ?_)
  · have a0 : (r) % bm_p d = 0 ∨ (r) % bm_q d = 0 := Or.inl (bm_cmp0 (bm_mod63 (by omega) (by omega)) h19)
    refine lv_lload_n hx hb dD_blindingFactor_33 rfl (lv_at hl 1 rfl) ?_
    refine lv_lconst (v := 1) hx hb dD_blindingFactor_34 (by decide) ?_
    refine lv_ladd hx hb dD_blindingFactor_35 ?_
    refine lv_topl (fun t2 e_t2 => ?_)
    have e_t2 : t2 = lN (r + 1) := by rw [e_t2]; exact lN_1 _
    subst e_t2
    refine lv_lstore_n hx hb dD_blindingFactor_36 rfl hl (by decide) rfl (fun ls hl => ?_)
    have hl : lv_has ls 6 [(3, .long (lN (r + 1))), (5, .int 0), (0, .ref (ad d)), (1, .long (lN r))] := hl
    refine lv_iinc (v := 1) (k := 1) hx hb dD_blindingFactor_37 hl rfl (by decide) (by decide) rfl (fun ls hl => ?_)
    have hl : lv_has ls 6 [(5, .int 1), (3, .long (lN (r + 1))), (0, .ref (ad d)), (1, .long (lN r))] := hl
    refine lv_goto (tgt := 5) hx hb dD_blindingFactor_40 rfl ?_
    refine lv_iload hx hb dD_blindingFactor_5 (lv_at hl 0 rfl) ?_
    refine lv_iconst (v := 2) hx hb dD_blindingFactor_7 (by decide) ?_
    refine lv_icmp_ge (tgt := 43) hx hb dD_blindingFactor_8 rfl (fun h => absurd h (by decide)) (fun _ => ?_)
    refine lv_lload_n hx hb dD_blindingFactor_11 rfl (lv_at hl 1 rfl) ?_
    refine lv_aload_n hx hb dD_blindingFactor_12 rfl (lv_at hl 2 rfl) ?_
    refine va_getX (i := d) hx hb hG.2.2.2.2.2.2.2.1 (by omega) hS hown (hts _ bw_836) (fun _ h9 => h9) dD_blindingFactor_13 ?_
    refine lv_lrem hx hb dD_blindingFactor_16 (bm_lN_ne (by omega) (by omega)) ?_
    refine lv_topl (fun t3 e_t3 => ?_)
    have e_t3 : t3 = lN ((r + 1) % bm_p d) := by rw [e_t3]; rw [pk_lRem (by omega) (by omega) (by omega)]
    subst e_t3
    refine lv_lconst (v := 0) hx hb dD_blindingFactor_17 (by decide) ?_
    refine W.lcmp hx hb dD_blindingFactor_18 ?_
    refine lv_if_eq (tgt := 33) hx hb dD_blindingFactor_19 rfl (fun h19 => ?_) (fun h19 => ?_)
    · have a1 : (r + 1) % bm_p d = 0 ∨ (r + 1) % bm_q d = 0 := Or.inl (bm_cmp0 (bm_mod63 (by omega) (by omega)) h19)
      refine lv_lload_n hx hb dD_blindingFactor_33 rfl (lv_at hl 1 rfl) ?_
      refine lv_lconst (v := 1) hx hb dD_blindingFactor_34 (by decide) ?_
      refine lv_ladd hx hb dD_blindingFactor_35 ?_
      refine lv_topl (fun t4 e_t4 => ?_)
      have e_t4 : t4 = lN (r + 1 + 1) := by rw [e_t4]; exact lN_1 _
      subst e_t4
      refine lv_lstore_n hx hb dD_blindingFactor_36 rfl hl (by decide) rfl (fun ls hl => ?_)
      have hl : lv_has ls 6 [(3, .long (lN (r + 1 + 1))), (5, .int 1), (0, .ref (ad d)), (1, .long (lN r))] := hl
      refine lv_iinc (v := 2) (k := 1) hx hb dD_blindingFactor_37 hl rfl (by decide) (by decide) rfl (fun ls hl => ?_)
      have hl : lv_has ls 6 [(5, .int 2), (3, .long (lN (r + 1 + 1))), (0, .ref (ad d)), (1, .long (lN r))] := hl
      refine lv_goto (tgt := 5) hx hb dD_blindingFactor_40 rfl ?_
      refine lv_iload hx hb dD_blindingFactor_5 (lv_at hl 0 rfl) ?_
      refine lv_iconst (v := 2) hx hb dD_blindingFactor_7 (by decide) ?_
      refine lv_icmp_ge (tgt := 43) hx hb dD_blindingFactor_8 rfl (fun _ => ?_) (fun h => absurd h (by decide))
      refine lv_lload_n hx hb dD_blindingFactor_43 rfl (lv_at hl 1 rfl) ?_
      exact bm_lret hQ hx hb hr hlk hM hS ⟨congrArg (fun z => some (Value.long (lN z))) (bm_bf_2 a0 a1), rfl, hz⟩ (Nat.le_refl _) (Nat.le_refl _) dD_blindingFactor_44
    · have b1 := bm_cmpn h19
      refine lv_lload_n hx hb dD_blindingFactor_22 rfl (lv_at hl 1 rfl) ?_
      refine lv_aload_n hx hb dD_blindingFactor_23 rfl (lv_at hl 2 rfl) ?_
      refine va_getX (i := d) hx hb hG.2.2.2.2.2.2.2.2 (by omega) hS hown (hts _ bw_837) (fun _ h9 => h9) dD_blindingFactor_24 ?_
      refine lv_lrem hx hb dD_blindingFactor_27 (bm_lN_ne (by omega) (by omega)) ?_
      refine lv_topl (fun t5 e_t5 => ?_)
      have e_t5 : t5 = lN ((r + 1) % bm_q d) := by rw [e_t5]; rw [pk_lRem (by omega) (by omega) (by omega)]
      subst e_t5
      refine lv_lconst (v := 0) hx hb dD_blindingFactor_28 (by decide) ?_
      refine W.lcmp hx hb dD_blindingFactor_29 ?_
      refine lv_if_ne (tgt := 43) hx hb dD_blindingFactor_30 rfl (fun h30 => ?_) (fun h30 => ?_)
      · have c1 := bm_cmpn h30
        refine lv_lload_n hx hb dD_blindingFactor_43 rfl (lv_at hl 1 rfl) ?_
        exact bm_lret hQ hx hb hr hlk hM hS ⟨congrArg (fun z => some (Value.long (lN z))) (bm_bf_1 a0 b1 c1), rfl, hz⟩ (Nat.le_refl _) (Nat.le_refl _) dD_blindingFactor_44
      · have a1 : (r + 1) % bm_p d = 0 ∨ (r + 1) % bm_q d = 0 := Or.inr (bm_cmp0 (bm_mod63 (by omega) (by omega)) h30)
        refine lv_lload_n hx hb dD_blindingFactor_33 rfl (lv_at hl 1 rfl) ?_
        refine lv_lconst (v := 1) hx hb dD_blindingFactor_34 (by decide) ?_
        refine lv_ladd hx hb dD_blindingFactor_35 ?_
        refine lv_topl (fun t6 e_t6 => ?_)
        have e_t6 : t6 = lN (r + 1 + 1) := by rw [e_t6]; exact lN_1 _
        subst e_t6
        refine lv_lstore_n hx hb dD_blindingFactor_36 rfl hl (by decide) rfl (fun ls hl => ?_)
        have hl : lv_has ls 6 [(3, .long (lN (r + 1 + 1))), (5, .int 1), (0, .ref (ad d)), (1, .long (lN r))] := hl
        refine lv_iinc (v := 2) (k := 1) hx hb dD_blindingFactor_37 hl rfl (by decide) (by decide) rfl (fun ls hl => ?_)
        have hl : lv_has ls 6 [(5, .int 2), (3, .long (lN (r + 1 + 1))), (0, .ref (ad d)), (1, .long (lN r))] := hl
        refine lv_goto (tgt := 5) hx hb dD_blindingFactor_40 rfl ?_
        refine lv_iload hx hb dD_blindingFactor_5 (lv_at hl 0 rfl) ?_
        refine lv_iconst (v := 2) hx hb dD_blindingFactor_7 (by decide) ?_
        refine lv_icmp_ge (tgt := 43) hx hb dD_blindingFactor_8 rfl (fun _ => ?_) (fun h => absurd h (by decide))
        refine lv_lload_n hx hb dD_blindingFactor_43 rfl (lv_at hl 1 rfl) ?_
        exact bm_lret hQ hx hb hr hlk hM hS ⟨congrArg (fun z => some (Value.long (lN z))) (bm_bf_2 a0 a1), rfl, hz⟩ (Nat.le_refl _) (Nat.le_refl _) dD_blindingFactor_44
  · have b0 := bm_cmpn h19
    refine lv_lload_n hx hb dD_blindingFactor_22 rfl (lv_at hl 1 rfl) ?_
    refine lv_aload_n hx hb dD_blindingFactor_23 rfl (lv_at hl 2 rfl) ?_
    refine va_getX (i := d) hx hb hG.2.2.2.2.2.2.2.2 (by omega) hS hown (hts _ bw_837) (fun _ h9 => h9) dD_blindingFactor_24 ?_
    refine lv_lrem hx hb dD_blindingFactor_27 (bm_lN_ne (by omega) (by omega)) ?_
    refine lv_topl (fun t7 e_t7 => ?_)
    have e_t7 : t7 = lN ((r) % bm_q d) := by rw [e_t7]; rw [pk_lRem (by omega) (by omega) (by omega)]
    subst e_t7
    refine lv_lconst (v := 0) hx hb dD_blindingFactor_28 (by decide) ?_
    refine W.lcmp hx hb dD_blindingFactor_29 ?_
    refine lv_if_ne (tgt := 43) hx hb dD_blindingFactor_30 rfl (fun h30 => ?_) (fun h30 => ?_)
    · have c0 := bm_cmpn h30
      refine lv_lload_n hx hb dD_blindingFactor_43 rfl (lv_at hl 1 rfl) ?_
      exact bm_lret hQ hx hb hr hlk hM hS ⟨congrArg (fun z => some (Value.long (lN z))) (bm_bf_0 b0 c0), rfl, hz⟩ (Nat.le_refl _) (Nat.le_refl _) dD_blindingFactor_44
    · have a0 : (r) % bm_p d = 0 ∨ (r) % bm_q d = 0 := Or.inr (bm_cmp0 (bm_mod63 (by omega) (by omega)) h30)
      refine lv_lload_n hx hb dD_blindingFactor_33 rfl (lv_at hl 1 rfl) ?_
      refine lv_lconst (v := 1) hx hb dD_blindingFactor_34 (by decide) ?_
      refine lv_ladd hx hb dD_blindingFactor_35 ?_
      refine lv_topl (fun t8 e_t8 => ?_)
      have e_t8 : t8 = lN (r + 1) := by rw [e_t8]; exact lN_1 _
      subst e_t8
      refine lv_lstore_n hx hb dD_blindingFactor_36 rfl hl (by decide) rfl (fun ls hl => ?_)
      have hl : lv_has ls 6 [(3, .long (lN (r + 1))), (5, .int 0), (0, .ref (ad d)), (1, .long (lN r))] := hl
      refine lv_iinc (v := 1) (k := 1) hx hb dD_blindingFactor_37 hl rfl (by decide) (by decide) rfl (fun ls hl => ?_)
      have hl : lv_has ls 6 [(5, .int 1), (3, .long (lN (r + 1))), (0, .ref (ad d)), (1, .long (lN r))] := hl
      refine lv_goto (tgt := 5) hx hb dD_blindingFactor_40 rfl ?_
      refine lv_iload hx hb dD_blindingFactor_5 (lv_at hl 0 rfl) ?_
      refine lv_iconst (v := 2) hx hb dD_blindingFactor_7 (by decide) ?_
      refine lv_icmp_ge (tgt := 43) hx hb dD_blindingFactor_8 rfl (fun h => absurd h (by decide)) (fun _ => ?_)
      refine lv_lload_n hx hb dD_blindingFactor_11 rfl (lv_at hl 1 rfl) ?_
      refine lv_aload_n hx hb dD_blindingFactor_12 rfl (lv_at hl 2 rfl) ?_
      refine va_getX (i := d) hx hb hG.2.2.2.2.2.2.2.1 (by omega) hS hown (hts _ bw_836) (fun _ h9 => h9) dD_blindingFactor_13 ?_
      refine lv_lrem hx hb dD_blindingFactor_16 (bm_lN_ne (by omega) (by omega)) ?_
      refine lv_topl (fun t9 e_t9 => ?_)
      have e_t9 : t9 = lN ((r + 1) % bm_p d) := by rw [e_t9]; rw [pk_lRem (by omega) (by omega) (by omega)]
      subst e_t9
      refine lv_lconst (v := 0) hx hb dD_blindingFactor_17 (by decide) ?_
      refine W.lcmp hx hb dD_blindingFactor_18 ?_
      refine lv_if_eq (tgt := 33) hx hb dD_blindingFactor_19 rfl (fun h19 => ?_) (fun h19 => ?_)
      · have a1 : (r + 1) % bm_p d = 0 ∨ (r + 1) % bm_q d = 0 := Or.inl (bm_cmp0 (bm_mod63 (by omega) (by omega)) h19)
        refine lv_lload_n hx hb dD_blindingFactor_33 rfl (lv_at hl 1 rfl) ?_
        refine lv_lconst (v := 1) hx hb dD_blindingFactor_34 (by decide) ?_
        refine lv_ladd hx hb dD_blindingFactor_35 ?_
        refine lv_topl (fun t10 e_t10 => ?_)
        have e_t10 : t10 = lN (r + 1 + 1) := by rw [e_t10]; exact lN_1 _
        subst e_t10
        refine lv_lstore_n hx hb dD_blindingFactor_36 rfl hl (by decide) rfl (fun ls hl => ?_)
        have hl : lv_has ls 6 [(3, .long (lN (r + 1 + 1))), (5, .int 1), (0, .ref (ad d)), (1, .long (lN r))] := hl
        refine lv_iinc (v := 2) (k := 1) hx hb dD_blindingFactor_37 hl rfl (by decide) (by decide) rfl (fun ls hl => ?_)
        have hl : lv_has ls 6 [(5, .int 2), (3, .long (lN (r + 1 + 1))), (0, .ref (ad d)), (1, .long (lN r))] := hl
        refine lv_goto (tgt := 5) hx hb dD_blindingFactor_40 rfl ?_
        refine lv_iload hx hb dD_blindingFactor_5 (lv_at hl 0 rfl) ?_
        refine lv_iconst (v := 2) hx hb dD_blindingFactor_7 (by decide) ?_
        refine lv_icmp_ge (tgt := 43) hx hb dD_blindingFactor_8 rfl (fun _ => ?_) (fun h => absurd h (by decide))
        refine lv_lload_n hx hb dD_blindingFactor_43 rfl (lv_at hl 1 rfl) ?_
        exact bm_lret hQ hx hb hr hlk hM hS ⟨congrArg (fun z => some (Value.long (lN z))) (bm_bf_2 a0 a1), rfl, hz⟩ (Nat.le_refl _) (Nat.le_refl _) dD_blindingFactor_44
      · have b1 := bm_cmpn h19
        refine lv_lload_n hx hb dD_blindingFactor_22 rfl (lv_at hl 1 rfl) ?_
        refine lv_aload_n hx hb dD_blindingFactor_23 rfl (lv_at hl 2 rfl) ?_
        refine va_getX (i := d) hx hb hG.2.2.2.2.2.2.2.2 (by omega) hS hown (hts _ bw_837) (fun _ h9 => h9) dD_blindingFactor_24 ?_
        refine lv_lrem hx hb dD_blindingFactor_27 (bm_lN_ne (by omega) (by omega)) ?_
        refine lv_topl (fun t11 e_t11 => ?_)
        have e_t11 : t11 = lN ((r + 1) % bm_q d) := by rw [e_t11]; rw [pk_lRem (by omega) (by omega) (by omega)]
        subst e_t11
        refine lv_lconst (v := 0) hx hb dD_blindingFactor_28 (by decide) ?_
        refine W.lcmp hx hb dD_blindingFactor_29 ?_
        refine lv_if_ne (tgt := 43) hx hb dD_blindingFactor_30 rfl (fun h30 => ?_) (fun h30 => ?_)
        · have c1 := bm_cmpn h30
          refine lv_lload_n hx hb dD_blindingFactor_43 rfl (lv_at hl 1 rfl) ?_
          exact bm_lret hQ hx hb hr hlk hM hS ⟨congrArg (fun z => some (Value.long (lN z))) (bm_bf_1 a0 b1 c1), rfl, hz⟩ (Nat.le_refl _) (Nat.le_refl _) dD_blindingFactor_44
        · have a1 : (r + 1) % bm_p d = 0 ∨ (r + 1) % bm_q d = 0 := Or.inr (bm_cmp0 (bm_mod63 (by omega) (by omega)) h30)
          refine lv_lload_n hx hb dD_blindingFactor_33 rfl (lv_at hl 1 rfl) ?_
          refine lv_lconst (v := 1) hx hb dD_blindingFactor_34 (by decide) ?_
          refine lv_ladd hx hb dD_blindingFactor_35 ?_
          refine lv_topl (fun t12 e_t12 => ?_)
          have e_t12 : t12 = lN (r + 1 + 1) := by rw [e_t12]; exact lN_1 _
          subst e_t12
          refine lv_lstore_n hx hb dD_blindingFactor_36 rfl hl (by decide) rfl (fun ls hl => ?_)
          have hl : lv_has ls 6 [(3, .long (lN (r + 1 + 1))), (5, .int 1), (0, .ref (ad d)), (1, .long (lN r))] := hl
          refine lv_iinc (v := 2) (k := 1) hx hb dD_blindingFactor_37 hl rfl (by decide) (by decide) rfl (fun ls hl => ?_)
          have hl : lv_has ls 6 [(5, .int 2), (3, .long (lN (r + 1 + 1))), (0, .ref (ad d)), (1, .long (lN r))] := hl
          refine lv_goto (tgt := 5) hx hb dD_blindingFactor_40 rfl ?_
          refine lv_iload hx hb dD_blindingFactor_5 (lv_at hl 0 rfl) ?_
          refine lv_iconst (v := 2) hx hb dD_blindingFactor_7 (by decide) ?_
          refine lv_icmp_ge (tgt := 43) hx hb dD_blindingFactor_8 rfl (fun _ => ?_) (fun h => absurd h (by decide))
          refine lv_lload_n hx hb dD_blindingFactor_43 rfl (lv_at hl 1 rfl) ?_
          exact bm_lret hQ hx hb hr hlk hM hS ⟨congrArg (fun z => some (Value.long (lN z))) (bm_bf_2 a0 a1), rfl, hz⟩ (Nat.le_refl _) (Nat.le_refl _) dD_blindingFactor_44
set_option maxHeartbeats 4000000 in
set_option maxRecDepth 100000 in
theorem bc_D_blind (l : Launch) (D : va_G) (ct : Nat → ClassId) (base : Nat) (ad : Nat → Nat) (M : bm_Map) (sz : Nat) (d k r : Nat) (hd : d < 3) (hk1 : k < 2 ^ 62) (hr1 : r < 2 ^ 62) : bm_MG l yD_blind (bm_ws yD_blind cD_blind 5 (some .long)) { frames := 4, cells := 0, slots := 0, locals := 103 } (bm_Pre D ct base ad M sz [.ref (ad d), .long (lN k), .long (lN r)]) (bm_Post D base (bm_Is (some (.long (lN (bm_bn d k r)))) M sz)) 0 0 (bm_A base) := by
  refine bm_ofG (cc := cD_blind) (maxL := 5) (ret := (some .long)) (by decide +kernel) (Nat.le_of_ble_eq_true rfl) ?_
  intro vp ve s vm args below meth vc hx hb hr hlk hts hown hml hnm ls hl hz hM hG R Q hR hQ
  have hown : s.vm.findClass "BlindMint$Denomination" = some vm.cls := hown
  have hK := hG.K
  have hS : va_S (bm_A base) s.heap s.heap [] := va_S.rf
  have hl : lv_has ls 5 [(0, .ref (ad d)), (1, .long (lN k)), (3, .long (lN r))] := hl
  have hpb := bm_pb d
  have hqb := bm_qb d
  refine lv_aload_n hx hb dD_blind_0 rfl (lv_at hl 0 rfl) ?_
  refine lv_lload_n hx hb dD_blind_1 rfl (lv_at hl 1 rfl) ?_
  refine lv_lload_n hx hb dD_blind_2 rfl (lv_at hl 2 rfl) ?_
  refine lv_ldc2 hx hb hown (hts _ bw_208) dD_blind_3 ?_
  refine lv_aload_n hx hb dD_blind_6 rfl (lv_at hl 0 rfl) ?_
  refine va_getX (i := d) hx hb hG.2.2.2.2.2.2.2.1 (by omega) hS hown (hts _ bw_836) (fun _ h9 => h9) dD_blind_7 ?_
  refine bm_callE (va_runS (As := [.long (lN r), .long 17, .long (lN (bm_p d))]) (rest := [.long (lN k), .ref (ad d)]) ⟨hx, hb, hml, hown, hts⟩ (bc_F_power l D ct base ad M sz r 17 (bm_p d) (by omega) (by decide) (by omega) (by omega)) (va_cwS 3 hts (bm_goodS bw_209 bw_210 bw_12 bw_211) rfl rfl rfl (by decide +kernel) (by rw [← hR]; exact ⟨Nat.le_of_ble_eq_true rfl, Nat.le_of_ble_eq_true rfl⟩)) (bm_preS hM hG hS hz) rfl rfl hl.1 rfl (lv_room (Nat.le_of_ble_eq_true rfl)) dD_blind_10 (by rw [← hR]; exact ⟨Nat.le_of_ble_eq_true rfl, Nat.le_of_ble_eq_true rfl⟩)) hS (fun H locs hz hM hS => ?_)
  refine lv_aload_n hx hb dD_blind_13 rfl (lv_at hl 0 rfl) ?_
  refine va_getX (i := d) hx hb hG.2.2.2.2.2.2.2.1 (by omega) hS hown (hts _ bw_836) (fun _ h9 => h9) dD_blind_14 ?_
  refine bm_callE (va_runS (As := [.long (lN k), .long (lN (r ^ 17 % bm_p d)), .long (lN (bm_p d))]) (rest := [.ref (ad d)]) ⟨hx, hb, hml, hown, hts⟩ (bc_F_multiply l D ct base ad M sz k (r ^ 17 % bm_p d) (bm_p d) (by omega) (bm_mod63 (by omega) (by omega)) (by omega) (by omega)) (va_cwS 3 hts (bm_goodS bw_375 bw_376 bw_12 bw_377) rfl rfl rfl (by decide +kernel) (by rw [← hR]; exact ⟨Nat.le_of_ble_eq_true rfl, Nat.le_of_ble_eq_true rfl⟩)) (bm_preS hM hG hS hz) rfl rfl hl.1 rfl (lv_room (Nat.le_of_ble_eq_true rfl)) dD_blind_17 (by rw [← hR]; exact ⟨Nat.le_of_ble_eq_true rfl, Nat.le_of_ble_eq_true rfl⟩)) hS (fun H locs hz hM hS => ?_)
  refine lv_topl (fun t1 e_t1 => ?_)
  have e_t1 : t1 = lN (k * r ^ 17 % bm_p d) := by rw [e_t1]; rw [bm_mm2]
  subst e_t1
  refine lv_lload_n hx hb dD_blind_20 rfl (lv_at hl 1 rfl) ?_
  refine lv_lload_n hx hb dD_blind_21 rfl (lv_at hl 2 rfl) ?_
  refine lv_ldc2 hx hb hown (hts _ bw_208) dD_blind_22 ?_
  refine lv_aload_n hx hb dD_blind_25 rfl (lv_at hl 0 rfl) ?_
  refine va_getX (i := d) hx hb hG.2.2.2.2.2.2.2.2 (by omega) hS hown (hts _ bw_837) (fun _ h9 => h9) dD_blind_26 ?_
  refine bm_callE (va_runS (As := [.long (lN r), .long 17, .long (lN (bm_q d))]) (rest := [.long (lN k), .long (lN (k * r ^ 17 % bm_p d)), .ref (ad d)]) ⟨hx, hb, hml, hown, hts⟩ (bc_F_power l D ct base ad M sz r 17 (bm_q d) (by omega) (by decide) (by omega) (by omega)) (va_cwS 3 hts (bm_goodS bw_209 bw_210 bw_12 bw_211) rfl rfl rfl (by decide +kernel) (by rw [← hR]; exact ⟨Nat.le_of_ble_eq_true rfl, Nat.le_of_ble_eq_true rfl⟩)) (bm_preS hM hG hS hz) rfl rfl hl.1 rfl (lv_room (Nat.le_of_ble_eq_true rfl)) dD_blind_29 (by rw [← hR]; exact ⟨Nat.le_of_ble_eq_true rfl, Nat.le_of_ble_eq_true rfl⟩)) hS (fun H locs hz hM hS => ?_)
  refine lv_aload_n hx hb dD_blind_32 rfl (lv_at hl 0 rfl) ?_
  refine va_getX (i := d) hx hb hG.2.2.2.2.2.2.2.2 (by omega) hS hown (hts _ bw_837) (fun _ h9 => h9) dD_blind_33 ?_
  refine bm_callE (va_runS (As := [.long (lN k), .long (lN (r ^ 17 % bm_q d)), .long (lN (bm_q d))]) (rest := [.long (lN (k * r ^ 17 % bm_p d)), .ref (ad d)]) ⟨hx, hb, hml, hown, hts⟩ (bc_F_multiply l D ct base ad M sz k (r ^ 17 % bm_q d) (bm_q d) (by omega) (bm_mod63 (by omega) (by omega)) (by omega) (by omega)) (va_cwS 3 hts (bm_goodS bw_375 bw_376 bw_12 bw_377) rfl rfl rfl (by decide +kernel) (by rw [← hR]; exact ⟨Nat.le_of_ble_eq_true rfl, Nat.le_of_ble_eq_true rfl⟩)) (bm_preS hM hG hS hz) rfl rfl hl.1 rfl (lv_room (Nat.le_of_ble_eq_true rfl)) dD_blind_36 (by rw [← hR]; exact ⟨Nat.le_of_ble_eq_true rfl, Nat.le_of_ble_eq_true rfl⟩)) hS (fun H locs hz hM hS => ?_)
  refine lv_topl (fun t2 e_t2 => ?_)
  have e_t2 : t2 = lN (k * r ^ 17 % bm_q d) := by rw [e_t2]; rw [bm_mm2]
  subst e_t2
  have hm1 : k * r ^ 17 % bm_p d < bm_p d := Nat.mod_lt _ (by omega)
  have hm2 : k * r ^ 17 % bm_q d < bm_q d := Nat.mod_lt _ (by omega)
  refine bm_callE (bm_runVG (C := "BlindMint$Denomination") (n := 2) (As := [.long (lN (k * r ^ 17 % bm_p d)), .long (lN (k * r ^ 17 % bm_q d))]) (rest := []) ⟨hx, hb, hml, hown, hts⟩ (bc_D_join l D ct base ad M sz d (k * r ^ 17 % bm_p d) (k * r ^ 17 % bm_q d) hd (by omega) (by omega)) bm_Post.ret bw_378 bw_380 bs_7 bw_382 rfl rfl (by decide +kernel) (by rw [← hR]; exact ⟨Nat.le_of_ble_eq_true rfl, Nat.le_of_ble_eq_true rfl⟩) (bm_preE hM hG hS hz hd) rfl rfl hl.1 rfl (lv_room (Nat.le_of_ble_eq_true rfl)) dD_blind_39 (by rw [← hR]; exact ⟨Nat.le_of_ble_eq_true rfl, Nat.le_of_ble_eq_true rfl⟩)) hS (fun H locs hz hM hS => ?_)
  exact bm_lret hQ hx hb hr hlk hM hS ⟨rfl, rfl, hz⟩ (Nat.le_refl _) (Nat.le_refl _) dD_blind_42
set_option maxHeartbeats 4000000 in
set_option maxRecDepth 100000 in
theorem bc_D_sign (l : Launch) (D : va_G) (ct : Nat → ClassId) (base : Nat) (ad : Nat → Nat) (M : bm_Map) (sz : Nat) (d k : Nat) (hd : d < 3) (hk1 : k < 2 ^ 62) : bm_MG l yD_sign (bm_ws yD_sign cD_sign 3 (some .long)) { frames := 4, cells := 0, slots := 0, locals := 103 } (bm_Pre D ct base ad M sz [.ref (ad d), .long (lN k)]) (bm_Post D base (bm_Is (some (.long (lN (bm_sg d k)))) M sz)) 0 0 (bm_A base) := by
  refine bm_ofG (cc := cD_sign) (maxL := 3) (ret := (some .long)) (by decide +kernel) (Nat.le_of_ble_eq_true rfl) ?_
  intro vp ve s vm args below meth vc hx hb hr hlk hts hown hml hnm ls hl hz hM hG R Q hR hQ
  have hown : s.vm.findClass "BlindMint$Denomination" = some vm.cls := hown
  have hK := hG.K
  have hS : va_S (bm_A base) s.heap s.heap [] := va_S.rf
  have hl : lv_has ls 3 [(0, .ref (ad d)), (1, .long (lN k))] := hl
  have hpb := bm_pb d
  have hqb := bm_qb d
  refine lv_aload_n hx hb dD_sign_0 rfl (lv_at hl 0 rfl) ?_
  refine lv_lload_n hx hb dD_sign_1 rfl (lv_at hl 1 rfl) ?_
  refine lv_ldc2 hx hb hown (hts _ bw_208) dD_sign_2 ?_
  refine lv_aload_n hx hb dD_sign_5 rfl (lv_at hl 0 rfl) ?_
  refine va_getX (i := d) hx hb hG.2.2.2.2.2.2.2.1 (by omega) hS hown (hts _ bw_836) (fun _ h9 => h9) dD_sign_6 ?_
  refine bm_callE (va_runS (As := [.long (lN k), .long 17, .long (lN (bm_p d))]) (rest := [.ref (ad d)]) ⟨hx, hb, hml, hown, hts⟩ (bc_F_root l D ct base ad M sz k (bm_p d) (bm_kp d) (by omega) (bm_up_ok d).2.2.2.1 (bm_up_ok d).2.1 (bm_up_ok d).2.2.1 (bm_up_ok d).2.2.2.2.1 (bm_up_ok d).2.2.2.2.2 (by omega) (by omega)) (va_cwS 3 hts (bm_goodS bw_396 bw_397 bw_12 bw_398) rfl rfl rfl (by decide +kernel) (by rw [← hR]; exact ⟨Nat.le_of_ble_eq_true rfl, Nat.le_of_ble_eq_true rfl⟩)) (bm_preS hM hG hS hz) rfl rfl hl.1 rfl (lv_room (Nat.le_of_ble_eq_true rfl)) dD_sign_9 (by rw [← hR]; exact ⟨Nat.le_of_ble_eq_true rfl, Nat.le_of_ble_eq_true rfl⟩)) hS (fun H locs hz hM hS => ?_)
  refine lv_lload_n hx hb dD_sign_12 rfl (lv_at hl 1 rfl) ?_
  refine lv_ldc2 hx hb hown (hts _ bw_208) dD_sign_13 ?_
  refine lv_aload_n hx hb dD_sign_16 rfl (lv_at hl 0 rfl) ?_
  refine va_getX (i := d) hx hb hG.2.2.2.2.2.2.2.2 (by omega) hS hown (hts _ bw_837) (fun _ h9 => h9) dD_sign_17 ?_
  refine bm_callE (va_runS (As := [.long (lN k), .long 17, .long (lN (bm_q d))]) (rest := [.long (lN (k ^ bm_u (bm_kp d) (bm_p d) % bm_p d)), .ref (ad d)]) ⟨hx, hb, hml, hown, hts⟩ (bc_F_root l D ct base ad M sz k (bm_q d) (bm_kq d) (by omega) (bm_uq_ok d).2.2.2.1 (bm_uq_ok d).2.1 (bm_uq_ok d).2.2.1 (bm_uq_ok d).2.2.2.2.1 (bm_uq_ok d).2.2.2.2.2 (by omega) (by omega)) (va_cwS 3 hts (bm_goodS bw_396 bw_397 bw_12 bw_398) rfl rfl rfl (by decide +kernel) (by rw [← hR]; exact ⟨Nat.le_of_ble_eq_true rfl, Nat.le_of_ble_eq_true rfl⟩)) (bm_preS hM hG hS hz) rfl rfl hl.1 rfl (lv_room (Nat.le_of_ble_eq_true rfl)) dD_sign_20 (by rw [← hR]; exact ⟨Nat.le_of_ble_eq_true rfl, Nat.le_of_ble_eq_true rfl⟩)) hS (fun H locs hz hM hS => ?_)
  have hm1 : k ^ bm_u (bm_kp d) (bm_p d) % bm_p d < bm_p d := Nat.mod_lt _ (by omega)
  have hm2 : k ^ bm_u (bm_kq d) (bm_q d) % bm_q d < bm_q d := Nat.mod_lt _ (by omega)
  refine bm_callE (bm_runVG (C := "BlindMint$Denomination") (n := 2) (As := [.long (lN (k ^ bm_u (bm_kp d) (bm_p d) % bm_p d)), .long (lN (k ^ bm_u (bm_kq d) (bm_q d) % bm_q d))]) (rest := []) ⟨hx, hb, hml, hown, hts⟩ (bc_D_join l D ct base ad M sz d (k ^ bm_u (bm_kp d) (bm_p d) % bm_p d) (k ^ bm_u (bm_kq d) (bm_q d) % bm_q d) hd (by omega) (by omega)) bm_Post.ret bw_378 bw_380 bs_7 bw_382 rfl rfl (by decide +kernel) (by rw [← hR]; exact ⟨Nat.le_of_ble_eq_true rfl, Nat.le_of_ble_eq_true rfl⟩) (bm_preE hM hG hS hz hd) rfl rfl hl.1 rfl (lv_room (Nat.le_of_ble_eq_true rfl)) dD_sign_23 (by rw [← hR]; exact ⟨Nat.le_of_ble_eq_true rfl, Nat.le_of_ble_eq_true rfl⟩)) hS (fun H locs hz hM hS => ?_)
  exact bm_lret hQ hx hb hr hlk hM hS ⟨rfl, rfl, hz⟩ (Nat.le_refl _) (Nat.le_refl _) dD_sign_26
set_option maxHeartbeats 4000000 in
set_option maxRecDepth 100000 in
theorem bc_D_unblind (l : Launch) (D : va_G) (ct : Nat → ClassId) (base : Nat) (ad : Nat → Nat) (M : bm_Map) (sz : Nat) (d k r : Nat) (hd : d < 3) (hk1 : k < 2 ^ 62) (hr1 : r < 2 ^ 62) : bm_MG l yD_unblind (bm_ws yD_unblind cD_unblind 5 (some .long)) { frames := 4, cells := 0, slots := 0, locals := 103 } (bm_Pre D ct base ad M sz [.ref (ad d), .long (lN k), .long (lN r)]) (bm_Post D base (bm_Is (some (.long (lN (bm_jd d (k % bm_p d * (r ^ (bm_p d - 2) % bm_p d) % bm_p d) (k % bm_q d * (r ^ (bm_q d - 2) % bm_q d) % bm_q d))))) M sz)) 0 0 (bm_A base) := by
  refine bm_ofG (cc := cD_unblind) (maxL := 5) (ret := (some .long)) (by decide +kernel) (Nat.le_of_ble_eq_true rfl) ?_
  intro vp ve s vm args below meth vc hx hb hr hlk hts hown hml hnm ls hl hz hM hG R Q hR hQ
  have hown : s.vm.findClass "BlindMint$Denomination" = some vm.cls := hown
  have hK := hG.K
  have hS : va_S (bm_A base) s.heap s.heap [] := va_S.rf
  have hl : lv_has ls 5 [(0, .ref (ad d)), (1, .long (lN k)), (3, .long (lN r))] := hl
  have hpb := bm_pb d
  have hqb := bm_qb d
  refine lv_aload_n hx hb dD_unblind_0 rfl (lv_at hl 0 rfl) ?_
  refine lv_lload_n hx hb dD_unblind_1 rfl (lv_at hl 1 rfl) ?_
  refine lv_lload_n hx hb dD_unblind_2 rfl (lv_at hl 2 rfl) ?_
  refine lv_aload_n hx hb dD_unblind_3 rfl (lv_at hl 0 rfl) ?_
  refine va_getX (i := d) hx hb hG.2.2.2.2.2.2.2.1 (by omega) hS hown (hts _ bw_836) (fun _ h9 => h9) dD_unblind_4 ?_
  refine bm_callE (va_runS (As := [.long (lN k), .long (lN r), .long (lN (bm_p d))]) (rest := [.ref (ad d)]) ⟨hx, hb, hml, hown, hts⟩ (bc_F_divide l D ct base ad M sz k r (bm_p d) (by omega) (by omega) (by omega) (by omega)) (va_cwS 3 hts (bm_goodS bw_386 bw_387 bw_12 bw_388) rfl rfl rfl (by decide +kernel) (by rw [← hR]; exact ⟨Nat.le_of_ble_eq_true rfl, Nat.le_of_ble_eq_true rfl⟩)) (bm_preS hM hG hS hz) rfl rfl hl.1 rfl (lv_room (Nat.le_of_ble_eq_true rfl)) dD_unblind_7 (by rw [← hR]; exact ⟨Nat.le_of_ble_eq_true rfl, Nat.le_of_ble_eq_true rfl⟩)) hS (fun H locs hz hM hS => ?_)
  refine lv_lload_n hx hb dD_unblind_10 rfl (lv_at hl 1 rfl) ?_
  refine lv_lload_n hx hb dD_unblind_11 rfl (lv_at hl 2 rfl) ?_
  refine lv_aload_n hx hb dD_unblind_12 rfl (lv_at hl 0 rfl) ?_
  refine va_getX (i := d) hx hb hG.2.2.2.2.2.2.2.2 (by omega) hS hown (hts _ bw_837) (fun _ h9 => h9) dD_unblind_13 ?_
  refine bm_callE (va_runS (As := [.long (lN k), .long (lN r), .long (lN (bm_q d))]) (rest := [.long (lN (k % bm_p d * (r ^ (bm_p d - 2) % bm_p d) % bm_p d)), .ref (ad d)]) ⟨hx, hb, hml, hown, hts⟩ (bc_F_divide l D ct base ad M sz k r (bm_q d) (by omega) (by omega) (by omega) (by omega)) (va_cwS 3 hts (bm_goodS bw_386 bw_387 bw_12 bw_388) rfl rfl rfl (by decide +kernel) (by rw [← hR]; exact ⟨Nat.le_of_ble_eq_true rfl, Nat.le_of_ble_eq_true rfl⟩)) (bm_preS hM hG hS hz) rfl rfl hl.1 rfl (lv_room (Nat.le_of_ble_eq_true rfl)) dD_unblind_16 (by rw [← hR]; exact ⟨Nat.le_of_ble_eq_true rfl, Nat.le_of_ble_eq_true rfl⟩)) hS (fun H locs hz hM hS => ?_)
  have hm1 : k % bm_p d * (r ^ (bm_p d - 2) % bm_p d) % bm_p d < bm_p d := Nat.mod_lt _ (by omega)
  have hm2 : k % bm_q d * (r ^ (bm_q d - 2) % bm_q d) % bm_q d < bm_q d := Nat.mod_lt _ (by omega)
  refine bm_callE (bm_runVG (C := "BlindMint$Denomination") (n := 2) (As := [.long (lN (k % bm_p d * (r ^ (bm_p d - 2) % bm_p d) % bm_p d)), .long (lN (k % bm_q d * (r ^ (bm_q d - 2) % bm_q d) % bm_q d))]) (rest := []) ⟨hx, hb, hml, hown, hts⟩ (bc_D_join l D ct base ad M sz d (k % bm_p d * (r ^ (bm_p d - 2) % bm_p d) % bm_p d) (k % bm_q d * (r ^ (bm_q d - 2) % bm_q d) % bm_q d) hd (by omega) (by omega)) bm_Post.ret bw_378 bw_380 bs_7 bw_382 rfl rfl (by decide +kernel) (by rw [← hR]; exact ⟨Nat.le_of_ble_eq_true rfl, Nat.le_of_ble_eq_true rfl⟩) (bm_preE hM hG hS hz hd) rfl rfl hl.1 rfl (lv_room (Nat.le_of_ble_eq_true rfl)) dD_unblind_19 (by rw [← hR]; exact ⟨Nat.le_of_ble_eq_true rfl, Nat.le_of_ble_eq_true rfl⟩)) hS (fun H locs hz hM hS => ?_)
  exact bm_lret hQ hx hb hr hlk hM hS ⟨rfl, rfl, hz⟩ (Nat.le_refl _) (Nat.le_refl _) dD_unblind_22
set_option maxHeartbeats 4000000 in
set_option maxRecDepth 100000 in
theorem bc_D_isSignature (l : Launch) (D : va_G) (ct : Nat → ClassId) (base : Nat) (ad : Nat → Nat) (M : bm_Map) (sz : Nat) (d : Nat) (x : Int64) (k : Nat) (hd : d < 3) (hk1 : k < 2 ^ 62) : bm_MG l yD_isSignature (bm_ws yD_isSignature cD_isSignature 5 (some .boolean)) { frames := 2, cells := 0, slots := 0, locals := 52 } (bm_Pre D ct base ad M sz [.ref (ad d), .long x, .long (lN k)]) (bm_Post D base (bm_Is (some (.int (bm_is d x k))) M sz)) 0 0 (bm_A base) := by
  refine bm_ofG (cc := cD_isSignature) (maxL := 5) (ret := (some .boolean)) (by decide +kernel) (Nat.le_of_ble_eq_true rfl) ?_
  intro vp ve s vm args below meth vc hx hb hr hlk hts hown hml hnm ls hl hz hM hG R Q hR hQ
  have hown : s.vm.findClass "BlindMint$Denomination" = some vm.cls := hown
  have hK := hG.K
  have hS : va_S (bm_A base) s.heap s.heap [] := va_S.rf
  have hl : lv_has ls 5 [(0, .ref (ad d)), (1, .long x), (3, .long (lN k))] := hl
  have hpb := bm_pb d
  have hqb := bm_qb d
  refine lv_lload_n hx hb dD_isSignature_0 rfl (lv_at hl 1 rfl) ?_
  refine lv_lconst (v := 0) hx hb dD_isSignature_1 (by decide) ?_
  refine W.lcmp hx hb dD_isSignature_2 ?_
  refine lv_if_lt (tgt := 66) hx hb dD_isSignature_3 rfl (fun h3 => ?_) (fun h3 => ?_)
  · rw [lg_cmp_lt] at h3
    refine lv_iconst (v := 0) hx hb dD_isSignature_66 (by decide) ?_
    exact bm_zret hQ hx hb hr hlk (by decide) hM hS ⟨by first | exact congrArg (fun z => some (Value.int z)) (if_pos (Or.inl h3) : bm_is d x k = 0).symm | exact congrArg (fun z => some (Value.int z)) (if_pos (Or.inr (Or.inl h17)) : bm_is d x k = 0).symm | exact congrArg (fun z => some (Value.int z)) (if_pos (Or.inr (Or.inr (Or.inl (bm_cmpNE h38)))) : bm_is d x k = 0).symm | exact congrArg (fun z => some (Value.int z)) (if_pos (Or.inr (Or.inr (Or.inr (bm_cmpNE h59)))) : bm_is d x k = 0).symm, rfl, hz⟩ (Nat.le_refl _) (Nat.le_refl _) dD_isSignature_67
  · rw [lg_cmp_lt] at h3
    obtain ⟨hn1, hn2⟩ := bm_is_n h3
    refine lv_lload_n hx hb dD_isSignature_6 rfl (lv_at hl 1 rfl) ?_
    refine lv_aload_n hx hb dD_isSignature_7 rfl (lv_at hl 0 rfl) ?_
    refine va_getX (i := d) hx hb hG.2.2.2.2.2.2.2.1 (by omega) hS hown (hts _ bw_836) (fun _ h9 => h9) dD_isSignature_8 ?_
    refine lv_aload_n hx hb dD_isSignature_11 rfl (lv_at hl 0 rfl) ?_
    refine va_getX (i := d) hx hb hG.2.2.2.2.2.2.2.2 (by omega) hS hown (hts _ bw_837) (fun _ h9 => h9) dD_isSignature_12 ?_
    refine lv_lmul hx hb dD_isSignature_15 ?_
    refine lv_topl (fun t1 e_t1 => ?_)
    have e_t1 : t1 = lN (bm_p d * bm_q d) := by rw [e_t1]; rw [lN_mul]
    subst e_t1
    refine W.lcmp hx hb dD_isSignature_16 ?_
    refine lv_if_ge (tgt := 66) hx hb dD_isSignature_17 rfl (fun h17 => ?_) (fun h17 => ?_)
    · rw [lg_cmp_ge] at h17
      refine lv_iconst (v := 0) hx hb dD_isSignature_66 (by decide) ?_
      exact bm_zret hQ hx hb hr hlk (by decide) hM hS ⟨by first | exact congrArg (fun z => some (Value.int z)) (if_pos (Or.inl h3) : bm_is d x k = 0).symm | exact congrArg (fun z => some (Value.int z)) (if_pos (Or.inr (Or.inl h17)) : bm_is d x k = 0).symm | exact congrArg (fun z => some (Value.int z)) (if_pos (Or.inr (Or.inr (Or.inl (bm_cmpNE h38)))) : bm_is d x k = 0).symm | exact congrArg (fun z => some (Value.int z)) (if_pos (Or.inr (Or.inr (Or.inr (bm_cmpNE h59)))) : bm_is d x k = 0).symm, rfl, hz⟩ (Nat.le_refl _) (Nat.le_refl _) dD_isSignature_67
    · rw [lg_cmp_ge] at h17
      refine lv_lload_n hx hb dD_isSignature_20 rfl (lv_at hl 1 rfl) ?_
      refine lv_topl (fun t2 e_t2 => ?_)
      have e_t2 : t2 = lN x.toBitVec.toNat := by rw [e_t2]; exact hn2
      subst e_t2
      refine lv_ldc2 hx hb hown (hts _ bw_208) dD_isSignature_21 ?_
      refine lv_aload_n hx hb dD_isSignature_24 rfl (lv_at hl 0 rfl) ?_
      refine va_getX (i := d) hx hb hG.2.2.2.2.2.2.2.1 (by omega) hS hown (hts _ bw_836) (fun _ h9 => h9) dD_isSignature_25 ?_
      have hpwp : x.toBitVec.toNat ^ 17 % bm_p d < 2 ^ 63 := bm_mod63 (by omega) (by omega)
      refine bm_callE (va_runS (As := [.long (lN x.toBitVec.toNat), .long 17, .long (lN (bm_p d))]) (rest := []) ⟨hx, hb, hml, hown, hts⟩ (bc_F_power l D ct base ad M sz x.toBitVec.toNat 17 (bm_p d) hn1 (by decide) (by omega) (by omega)) (va_cwS 3 hts (bm_goodS bw_209 bw_210 bw_12 bw_211) rfl rfl rfl (by decide +kernel) (by rw [← hR]; exact ⟨Nat.le_of_ble_eq_true rfl, Nat.le_of_ble_eq_true rfl⟩)) (bm_preS hM hG hS hz) rfl rfl hl.1 rfl (lv_room (Nat.le_of_ble_eq_true rfl)) dD_isSignature_28 (by rw [← hR]; exact ⟨Nat.le_of_ble_eq_true rfl, Nat.le_of_ble_eq_true rfl⟩)) hS (fun H locs hz hM hS => ?_)
      refine lv_lload_n hx hb dD_isSignature_31 rfl (lv_at hl 2 rfl) ?_
      refine lv_aload_n hx hb dD_isSignature_32 rfl (lv_at hl 0 rfl) ?_
      refine va_getX (i := d) hx hb hG.2.2.2.2.2.2.2.1 (by omega) hS hown (hts _ bw_836) (fun _ h9 => h9) dD_isSignature_33 ?_
      refine lv_lrem hx hb dD_isSignature_36 (bm_lN_ne (by omega) (by omega)) ?_
      refine lv_topl (fun t3 e_t3 => ?_)
      have e_t3 : t3 = lN (k % bm_p d) := by rw [e_t3]; rw [pk_lRem (by omega) (by omega) (by omega)]
      subst e_t3
      refine W.lcmp hx hb dD_isSignature_37 ?_
      refine lv_if_ne (tgt := 66) hx hb dD_isSignature_38 rfl (fun h38 => ?_) (fun h38 => ?_)
      · refine lv_iconst (v := 0) hx hb dD_isSignature_66 (by decide) ?_
        exact bm_zret hQ hx hb hr hlk (by decide) hM hS ⟨by first | exact congrArg (fun z => some (Value.int z)) (if_pos (Or.inl h3) : bm_is d x k = 0).symm | exact congrArg (fun z => some (Value.int z)) (if_pos (Or.inr (Or.inl h17)) : bm_is d x k = 0).symm | exact congrArg (fun z => some (Value.int z)) (if_pos (Or.inr (Or.inr (Or.inl (bm_cmpNE h38)))) : bm_is d x k = 0).symm | exact congrArg (fun z => some (Value.int z)) (if_pos (Or.inr (Or.inr (Or.inr (bm_cmpNE h59)))) : bm_is d x k = 0).symm, rfl, hz⟩ (Nat.le_refl _) (Nat.le_refl _) dD_isSignature_67
      · refine lv_lload_n hx hb dD_isSignature_41 rfl (lv_at hl 1 rfl) ?_
        refine lv_topl (fun t4 e_t4 => ?_)
        have e_t4 : t4 = lN x.toBitVec.toNat := by rw [e_t4]; exact hn2
        subst e_t4
        refine lv_ldc2 hx hb hown (hts _ bw_208) dD_isSignature_42 ?_
        refine lv_aload_n hx hb dD_isSignature_45 rfl (lv_at hl 0 rfl) ?_
        refine va_getX (i := d) hx hb hG.2.2.2.2.2.2.2.2 (by omega) hS hown (hts _ bw_837) (fun _ h9 => h9) dD_isSignature_46 ?_
        have hpwq : x.toBitVec.toNat ^ 17 % bm_q d < 2 ^ 63 := bm_mod63 (by omega) (by omega)
        refine bm_callE (va_runS (As := [.long (lN x.toBitVec.toNat), .long 17, .long (lN (bm_q d))]) (rest := []) ⟨hx, hb, hml, hown, hts⟩ (bc_F_power l D ct base ad M sz x.toBitVec.toNat 17 (bm_q d) hn1 (by decide) (by omega) (by omega)) (va_cwS 3 hts (bm_goodS bw_209 bw_210 bw_12 bw_211) rfl rfl rfl (by decide +kernel) (by rw [← hR]; exact ⟨Nat.le_of_ble_eq_true rfl, Nat.le_of_ble_eq_true rfl⟩)) (bm_preS hM hG hS hz) rfl rfl hl.1 rfl (lv_room (Nat.le_of_ble_eq_true rfl)) dD_isSignature_49 (by rw [← hR]; exact ⟨Nat.le_of_ble_eq_true rfl, Nat.le_of_ble_eq_true rfl⟩)) hS (fun H locs hz hM hS => ?_)
        refine lv_lload_n hx hb dD_isSignature_52 rfl (lv_at hl 2 rfl) ?_
        refine lv_aload_n hx hb dD_isSignature_53 rfl (lv_at hl 0 rfl) ?_
        refine va_getX (i := d) hx hb hG.2.2.2.2.2.2.2.2 (by omega) hS hown (hts _ bw_837) (fun _ h9 => h9) dD_isSignature_54 ?_
        refine lv_lrem hx hb dD_isSignature_57 (bm_lN_ne (by omega) (by omega)) ?_
        refine lv_topl (fun t5 e_t5 => ?_)
        have e_t5 : t5 = lN (k % bm_q d) := by rw [e_t5]; rw [pk_lRem (by omega) (by omega) (by omega)]
        subst e_t5
        refine W.lcmp hx hb dD_isSignature_58 ?_
        refine lv_if_ne (tgt := 66) hx hb dD_isSignature_59 rfl (fun h59 => ?_) (fun h59 => ?_)
        · refine lv_iconst (v := 0) hx hb dD_isSignature_66 (by decide) ?_
          exact bm_zret hQ hx hb hr hlk (by decide) hM hS ⟨by first | exact congrArg (fun z => some (Value.int z)) (if_pos (Or.inl h3) : bm_is d x k = 0).symm | exact congrArg (fun z => some (Value.int z)) (if_pos (Or.inr (Or.inl h17)) : bm_is d x k = 0).symm | exact congrArg (fun z => some (Value.int z)) (if_pos (Or.inr (Or.inr (Or.inl (bm_cmpNE h38)))) : bm_is d x k = 0).symm | exact congrArg (fun z => some (Value.int z)) (if_pos (Or.inr (Or.inr (Or.inr (bm_cmpNE h59)))) : bm_is d x k = 0).symm, rfl, hz⟩ (Nat.le_refl _) (Nat.le_refl _) dD_isSignature_67
        · refine lv_iconst (v := 1) hx hb dD_isSignature_62 (by decide) ?_
          refine lv_goto (tgt := 67) hx hb dD_isSignature_63 rfl ?_
          exact bm_zret hQ hx hb hr hlk (by decide) hM hS ⟨by first | exact congrArg (fun z => some (Value.int z)) (if_neg (fun q => q.elim h3 (fun q => q.elim h17 (fun q => q.elim (fun q => q (bm_cmpE hpwp (bm_mod63 (by omega) (by omega)) h38)) (fun q => q (bm_cmpE hpwq (bm_mod63 (by omega) (by omega)) h59))))) : bm_is d x k = 1).symm, rfl, hz⟩ (Nat.le_refl _) (Nat.le_refl _) dD_isSignature_67
end
section
set_option maxHeartbeats 4000000 in
set_option maxRecDepth 100000 in
theorem bc_M_factor_p0 (l : Launch) (D : va_G) (ct : Nat → ClassId) (base : Nat) (ad : Nat → Nat) (M : bm_Map) (sz : Nat)  : Met l yM_factor (bm_ws yM_factor cM_factor 2 (some .long)) { frames := 0, cells := 0, slots := 0, locals := 0 } (bm_Pre D ct base ad M sz [.int 0, .int 0]) (bm_Post D base (bm_Is (some (.long (lN (bm_p 0)))) M sz)) 0 0 (bm_A base) := by
  refine bm_ofB (cc := cM_factor) (maxL := 2) (ret := (some .long)) (by decide +kernel) (Nat.le_of_ble_eq_true rfl) ?_
  intro vp ve s vm args below meth vc hx hb hr hlk hts hown hml hnm ls hl hz hM hG R Q hR hQ
  have hown : s.vm.findClass "BlindMintModel" = some vm.cls := hown
  have hK := hG.K
  have hS : va_S (bm_A base) s.heap s.heap [] := va_S.rf
  have hl : lv_has ls 2 [(0, .int 0), (1, .int 0)] := hl
  refine lv_iload_n hx hb dM_factor_0 rfl (lv_at hl 0 rfl) ?_
  refine lv_if_ne (tgt := 18) hx hb dM_factor_1 rfl (fun h => absurd h (by decide)) (fun _ => ?_)
  refine lv_iload_n hx hb dM_factor_4 rfl (lv_at hl 1 rfl) ?_
  refine lv_if_eq (tgt := 14) hx hb dM_factor_5 rfl (fun _ => ?_) (fun h => absurd h (by decide))
  refine lv_ldc2 hx hb hown (hts _ bw_730) dM_factor_14 ?_
  exact bm_lret hQ hx hb hr hlk hM hS ⟨rfl, rfl, hz⟩ (Nat.le_refl _) (Nat.le_refl _) dM_factor_17
set_option maxHeartbeats 4000000 in
set_option maxRecDepth 100000 in
theorem bc_M_factor_p1 (l : Launch) (D : va_G) (ct : Nat → ClassId) (base : Nat) (ad : Nat → Nat) (M : bm_Map) (sz : Nat)  : Met l yM_factor (bm_ws yM_factor cM_factor 2 (some .long)) { frames := 0, cells := 0, slots := 0, locals := 0 } (bm_Pre D ct base ad M sz [.int 1, .int 0]) (bm_Post D base (bm_Is (some (.long (lN (bm_p 1)))) M sz)) 0 0 (bm_A base) := by
  refine bm_ofB (cc := cM_factor) (maxL := 2) (ret := (some .long)) (by decide +kernel) (Nat.le_of_ble_eq_true rfl) ?_
  intro vp ve s vm args below meth vc hx hb hr hlk hts hown hml hnm ls hl hz hM hG R Q hR hQ
  have hown : s.vm.findClass "BlindMintModel" = some vm.cls := hown
  have hK := hG.K
  have hS : va_S (bm_A base) s.heap s.heap [] := va_S.rf
  have hl : lv_has ls 2 [(0, .int 1), (1, .int 0)] := hl
  refine lv_iload_n hx hb dM_factor_0 rfl (lv_at hl 0 rfl) ?_
  refine lv_if_ne (tgt := 18) hx hb dM_factor_1 rfl (fun _ => ?_) (fun h => absurd h (by decide))
  refine lv_iload_n hx hb dM_factor_18 rfl (lv_at hl 0 rfl) ?_
  refine lv_iconst (v := 1) hx hb dM_factor_19 (by decide) ?_
  refine lv_icmp_ne (tgt := 37) hx hb dM_factor_20 rfl (fun h => absurd h (by decide)) (fun _ => ?_)
  refine lv_iload_n hx hb dM_factor_23 rfl (lv_at hl 1 rfl) ?_
  refine lv_if_eq (tgt := 33) hx hb dM_factor_24 rfl (fun _ => ?_) (fun h => absurd h (by decide))
  refine lv_ldc2 hx hb hown (hts _ bw_732) dM_factor_33 ?_
  exact bm_lret hQ hx hb hr hlk hM hS ⟨rfl, rfl, hz⟩ (Nat.le_refl _) (Nat.le_refl _) dM_factor_36
set_option maxHeartbeats 4000000 in
set_option maxRecDepth 100000 in
theorem bc_M_factor_p2 (l : Launch) (D : va_G) (ct : Nat → ClassId) (base : Nat) (ad : Nat → Nat) (M : bm_Map) (sz : Nat)  : Met l yM_factor (bm_ws yM_factor cM_factor 2 (some .long)) { frames := 0, cells := 0, slots := 0, locals := 0 } (bm_Pre D ct base ad M sz [.int 2, .int 0]) (bm_Post D base (bm_Is (some (.long (lN (bm_p 2)))) M sz)) 0 0 (bm_A base) := by
  refine bm_ofB (cc := cM_factor) (maxL := 2) (ret := (some .long)) (by decide +kernel) (Nat.le_of_ble_eq_true rfl) ?_
  intro vp ve s vm args below meth vc hx hb hr hlk hts hown hml hnm ls hl hz hM hG R Q hR hQ
  have hown : s.vm.findClass "BlindMintModel" = some vm.cls := hown
  have hK := hG.K
  have hS : va_S (bm_A base) s.heap s.heap [] := va_S.rf
  have hl : lv_has ls 2 [(0, .int 2), (1, .int 0)] := hl
  refine lv_iload_n hx hb dM_factor_0 rfl (lv_at hl 0 rfl) ?_
  refine lv_if_ne (tgt := 18) hx hb dM_factor_1 rfl (fun _ => ?_) (fun h => absurd h (by decide))
  refine lv_iload_n hx hb dM_factor_18 rfl (lv_at hl 0 rfl) ?_
  refine lv_iconst (v := 1) hx hb dM_factor_19 (by decide) ?_
  refine lv_icmp_ne (tgt := 37) hx hb dM_factor_20 rfl (fun _ => ?_) (fun h => absurd h (by decide))
  refine lv_iload_n hx hb dM_factor_37 rfl (lv_at hl 1 rfl) ?_
  refine lv_if_eq (tgt := 47) hx hb dM_factor_38 rfl (fun _ => ?_) (fun h => absurd h (by decide))
  refine lv_ldc2 hx hb hown (hts _ bw_734) dM_factor_47 ?_
  exact bm_lret hQ hx hb hr hlk hM hS ⟨rfl, rfl, hz⟩ (Nat.le_refl _) (Nat.le_refl _) dM_factor_50
theorem bc_M_factor_p (l : Launch) (D : va_G) (ct : Nat → ClassId) (base : Nat) (ad : Nat → Nat) (M : bm_Map) (sz : Nat) (d : Nat) (hd : d < 3) : Met l yM_factor (bm_ws yM_factor cM_factor 2 (some .long)) { frames := 0, cells := 0, slots := 0, locals := 0 } (bm_Pre D ct base ad M sz [.int (nI d), .int 0]) (bm_Post D base (bm_Is (some (.long (lN (bm_p d)))) M sz)) 0 0 (bm_A base) := by
  match d, hd with
  | 0, _ => exact bc_M_factor_p0 l D ct base ad M sz
  | 1, _ => exact bc_M_factor_p1 l D ct base ad M sz
  | 2, _ => exact bc_M_factor_p2 l D ct base ad M sz
set_option maxHeartbeats 4000000 in
set_option maxRecDepth 100000 in
theorem bc_M_factor_q0 (l : Launch) (D : va_G) (ct : Nat → ClassId) (base : Nat) (ad : Nat → Nat) (M : bm_Map) (sz : Nat)  : Met l yM_factor (bm_ws yM_factor cM_factor 2 (some .long)) { frames := 0, cells := 0, slots := 0, locals := 0 } (bm_Pre D ct base ad M sz [.int 0, .int 1]) (bm_Post D base (bm_Is (some (.long (lN (bm_q 0)))) M sz)) 0 0 (bm_A base) := by
  refine bm_ofB (cc := cM_factor) (maxL := 2) (ret := (some .long)) (by decide +kernel) (Nat.le_of_ble_eq_true rfl) ?_
  intro vp ve s vm args below meth vc hx hb hr hlk hts hown hml hnm ls hl hz hM hG R Q hR hQ
  have hown : s.vm.findClass "BlindMintModel" = some vm.cls := hown
  have hK := hG.K
  have hS : va_S (bm_A base) s.heap s.heap [] := va_S.rf
  have hl : lv_has ls 2 [(0, .int 0), (1, .int 1)] := hl
  refine lv_iload_n hx hb dM_factor_0 rfl (lv_at hl 0 rfl) ?_
  refine lv_if_ne (tgt := 18) hx hb dM_factor_1 rfl (fun h => absurd h (by decide)) (fun _ => ?_)
  refine lv_iload_n hx hb dM_factor_4 rfl (lv_at hl 1 rfl) ?_
  refine lv_if_eq (tgt := 14) hx hb dM_factor_5 rfl (fun h => absurd h (by decide)) (fun _ => ?_)
  refine lv_ldc2 hx hb hown (hts _ bw_729) dM_factor_8 ?_
  refine lv_goto (tgt := 17) hx hb dM_factor_11 rfl ?_
  exact bm_lret hQ hx hb hr hlk hM hS ⟨rfl, rfl, hz⟩ (Nat.le_refl _) (Nat.le_refl _) dM_factor_17
set_option maxHeartbeats 4000000 in
set_option maxRecDepth 100000 in
theorem bc_M_factor_q1 (l : Launch) (D : va_G) (ct : Nat → ClassId) (base : Nat) (ad : Nat → Nat) (M : bm_Map) (sz : Nat)  : Met l yM_factor (bm_ws yM_factor cM_factor 2 (some .long)) { frames := 0, cells := 0, slots := 0, locals := 0 } (bm_Pre D ct base ad M sz [.int 1, .int 1]) (bm_Post D base (bm_Is (some (.long (lN (bm_q 1)))) M sz)) 0 0 (bm_A base) := by
  refine bm_ofB (cc := cM_factor) (maxL := 2) (ret := (some .long)) (by decide +kernel) (Nat.le_of_ble_eq_true rfl) ?_
  intro vp ve s vm args below meth vc hx hb hr hlk hts hown hml hnm ls hl hz hM hG R Q hR hQ
  have hown : s.vm.findClass "BlindMintModel" = some vm.cls := hown
  have hK := hG.K
  have hS : va_S (bm_A base) s.heap s.heap [] := va_S.rf
  have hl : lv_has ls 2 [(0, .int 1), (1, .int 1)] := hl
  refine lv_iload_n hx hb dM_factor_0 rfl (lv_at hl 0 rfl) ?_
  refine lv_if_ne (tgt := 18) hx hb dM_factor_1 rfl (fun _ => ?_) (fun h => absurd h (by decide))
  refine lv_iload_n hx hb dM_factor_18 rfl (lv_at hl 0 rfl) ?_
  refine lv_iconst (v := 1) hx hb dM_factor_19 (by decide) ?_
  refine lv_icmp_ne (tgt := 37) hx hb dM_factor_20 rfl (fun h => absurd h (by decide)) (fun _ => ?_)
  refine lv_iload_n hx hb dM_factor_23 rfl (lv_at hl 1 rfl) ?_
  refine lv_if_eq (tgt := 33) hx hb dM_factor_24 rfl (fun h => absurd h (by decide)) (fun _ => ?_)
  refine lv_ldc2 hx hb hown (hts _ bw_731) dM_factor_27 ?_
  refine lv_goto (tgt := 36) hx hb dM_factor_30 rfl ?_
  exact bm_lret hQ hx hb hr hlk hM hS ⟨rfl, rfl, hz⟩ (Nat.le_refl _) (Nat.le_refl _) dM_factor_36
set_option maxHeartbeats 4000000 in
set_option maxRecDepth 100000 in
theorem bc_M_factor_q2 (l : Launch) (D : va_G) (ct : Nat → ClassId) (base : Nat) (ad : Nat → Nat) (M : bm_Map) (sz : Nat)  : Met l yM_factor (bm_ws yM_factor cM_factor 2 (some .long)) { frames := 0, cells := 0, slots := 0, locals := 0 } (bm_Pre D ct base ad M sz [.int 2, .int 1]) (bm_Post D base (bm_Is (some (.long (lN (bm_q 2)))) M sz)) 0 0 (bm_A base) := by
  refine bm_ofB (cc := cM_factor) (maxL := 2) (ret := (some .long)) (by decide +kernel) (Nat.le_of_ble_eq_true rfl) ?_
  intro vp ve s vm args below meth vc hx hb hr hlk hts hown hml hnm ls hl hz hM hG R Q hR hQ
  have hown : s.vm.findClass "BlindMintModel" = some vm.cls := hown
  have hK := hG.K
  have hS : va_S (bm_A base) s.heap s.heap [] := va_S.rf
  have hl : lv_has ls 2 [(0, .int 2), (1, .int 1)] := hl
  refine lv_iload_n hx hb dM_factor_0 rfl (lv_at hl 0 rfl) ?_
  refine lv_if_ne (tgt := 18) hx hb dM_factor_1 rfl (fun _ => ?_) (fun h => absurd h (by decide))
  refine lv_iload_n hx hb dM_factor_18 rfl (lv_at hl 0 rfl) ?_
  refine lv_iconst (v := 1) hx hb dM_factor_19 (by decide) ?_
  refine lv_icmp_ne (tgt := 37) hx hb dM_factor_20 rfl (fun _ => ?_) (fun h => absurd h (by decide))
  refine lv_iload_n hx hb dM_factor_37 rfl (lv_at hl 1 rfl) ?_
  refine lv_if_eq (tgt := 47) hx hb dM_factor_38 rfl (fun h => absurd h (by decide)) (fun _ => ?_)
  refine lv_ldc2 hx hb hown (hts _ bw_733) dM_factor_41 ?_
  refine lv_goto (tgt := 50) hx hb dM_factor_44 rfl ?_
  exact bm_lret hQ hx hb hr hlk hM hS ⟨rfl, rfl, hz⟩ (Nat.le_refl _) (Nat.le_refl _) dM_factor_50
theorem bc_M_factor_q (l : Launch) (D : va_G) (ct : Nat → ClassId) (base : Nat) (ad : Nat → Nat) (M : bm_Map) (sz : Nat) (d : Nat) (hd : d < 3) : Met l yM_factor (bm_ws yM_factor cM_factor 2 (some .long)) { frames := 0, cells := 0, slots := 0, locals := 0 } (bm_Pre D ct base ad M sz [.int (nI d), .int 1]) (bm_Post D base (bm_Is (some (.long (lN (bm_q d)))) M sz)) 0 0 (bm_A base) := by
  match d, hd with
  | 0, _ => exact bc_M_factor_q0 l D ct base ad M sz
  | 1, _ => exact bc_M_factor_q1 l D ct base ad M sz
  | 2, _ => exact bc_M_factor_q2 l D ct base ad M sz
set_option maxHeartbeats 4000000 in
set_option maxRecDepth 100000 in
theorem bc_M_worth0 (l : Launch) (D : va_G) (ct : Nat → ClassId) (base : Nat) (ad : Nat → Nat) (M : bm_Map) (sz : Nat)  : Met l yM_worth (bm_ws yM_worth cM_worth 1 (some .int)) { frames := 0, cells := 0, slots := 0, locals := 0 } (bm_Pre D ct base ad M sz [.int 0]) (bm_Post D base (bm_Is (some (.int (bm_w 0))) M sz)) 0 0 (bm_A base) := by
  refine bm_ofB (cc := cM_worth) (maxL := 1) (ret := (some .int)) (by decide +kernel) (Nat.le_of_ble_eq_true rfl) ?_
  intro vp ve s vm args below meth vc hx hb hr hlk hts hown hml hnm ls hl hz hM hG R Q hR hQ
  have hown : s.vm.findClass "BlindMintModel" = some vm.cls := hown
  have hK := hG.K
  have hS : va_S (bm_A base) s.heap s.heap [] := va_S.rf
  have hl : lv_has ls 1 [(0, .int 0)] := hl
  refine lv_iload_n hx hb dM_worth_0 rfl (lv_at hl 0 rfl) ?_
  refine lv_if_ne (tgt := 8) hx hb dM_worth_1 rfl (fun h => absurd h (by decide)) (fun _ => ?_)
  refine lv_iconst (v := 1) hx hb dM_worth_4 (by decide) ?_
  refine lv_goto (tgt := 19) hx hb dM_worth_5 rfl ?_
  exact bm_iret hQ hx hb hr hlk hM hS ⟨rfl, rfl, hz⟩ (Nat.le_refl _) (Nat.le_refl _) dM_worth_19
set_option maxHeartbeats 4000000 in
set_option maxRecDepth 100000 in
theorem bc_M_worth1 (l : Launch) (D : va_G) (ct : Nat → ClassId) (base : Nat) (ad : Nat → Nat) (M : bm_Map) (sz : Nat)  : Met l yM_worth (bm_ws yM_worth cM_worth 1 (some .int)) { frames := 0, cells := 0, slots := 0, locals := 0 } (bm_Pre D ct base ad M sz [.int 1]) (bm_Post D base (bm_Is (some (.int (bm_w 1))) M sz)) 0 0 (bm_A base) := by
  refine bm_ofB (cc := cM_worth) (maxL := 1) (ret := (some .int)) (by decide +kernel) (Nat.le_of_ble_eq_true rfl) ?_
  intro vp ve s vm args below meth vc hx hb hr hlk hts hown hml hnm ls hl hz hM hG R Q hR hQ
  have hown : s.vm.findClass "BlindMintModel" = some vm.cls := hown
  have hK := hG.K
  have hS : va_S (bm_A base) s.heap s.heap [] := va_S.rf
  have hl : lv_has ls 1 [(0, .int 1)] := hl
  refine lv_iload_n hx hb dM_worth_0 rfl (lv_at hl 0 rfl) ?_
  refine lv_if_ne (tgt := 8) hx hb dM_worth_1 rfl (fun _ => ?_) (fun h => absurd h (by decide))
  refine lv_iload_n hx hb dM_worth_8 rfl (lv_at hl 0 rfl) ?_
  refine lv_iconst (v := 1) hx hb dM_worth_9 (by decide) ?_
  refine lv_icmp_ne (tgt := 17) hx hb dM_worth_10 rfl (fun h => absurd h (by decide)) (fun _ => ?_)
  refine lv_iconst (v := 5) hx hb dM_worth_13 (by decide) ?_
  refine lv_goto (tgt := 19) hx hb dM_worth_14 rfl ?_
  exact bm_iret hQ hx hb hr hlk hM hS ⟨rfl, rfl, hz⟩ (Nat.le_refl _) (Nat.le_refl _) dM_worth_19
set_option maxHeartbeats 4000000 in
set_option maxRecDepth 100000 in
theorem bc_M_worth2 (l : Launch) (D : va_G) (ct : Nat → ClassId) (base : Nat) (ad : Nat → Nat) (M : bm_Map) (sz : Nat)  : Met l yM_worth (bm_ws yM_worth cM_worth 1 (some .int)) { frames := 0, cells := 0, slots := 0, locals := 0 } (bm_Pre D ct base ad M sz [.int 2]) (bm_Post D base (bm_Is (some (.int (bm_w 2))) M sz)) 0 0 (bm_A base) := by
  refine bm_ofB (cc := cM_worth) (maxL := 1) (ret := (some .int)) (by decide +kernel) (Nat.le_of_ble_eq_true rfl) ?_
  intro vp ve s vm args below meth vc hx hb hr hlk hts hown hml hnm ls hl hz hM hG R Q hR hQ
  have hown : s.vm.findClass "BlindMintModel" = some vm.cls := hown
  have hK := hG.K
  have hS : va_S (bm_A base) s.heap s.heap [] := va_S.rf
  have hl : lv_has ls 1 [(0, .int 2)] := hl
  refine lv_iload_n hx hb dM_worth_0 rfl (lv_at hl 0 rfl) ?_
  refine lv_if_ne (tgt := 8) hx hb dM_worth_1 rfl (fun _ => ?_) (fun h => absurd h (by decide))
  refine lv_iload_n hx hb dM_worth_8 rfl (lv_at hl 0 rfl) ?_
  refine lv_iconst (v := 1) hx hb dM_worth_9 (by decide) ?_
  refine lv_icmp_ne (tgt := 17) hx hb dM_worth_10 rfl (fun _ => ?_) (fun h => absurd h (by decide))
  refine lv_bipush (v := 20) hx hb dM_worth_17 (by decide) ?_
  exact bm_iret hQ hx hb hr hlk hM hS ⟨rfl, rfl, hz⟩ (Nat.le_refl _) (Nat.le_refl _) dM_worth_19
theorem bc_M_worth (l : Launch) (D : va_G) (ct : Nat → ClassId) (base : Nat) (ad : Nat → Nat) (M : bm_Map) (sz : Nat) (d : Nat) (hd : d < 3) : Met l yM_worth (bm_ws yM_worth cM_worth 1 (some .int)) { frames := 0, cells := 0, slots := 0, locals := 0 } (bm_Pre D ct base ad M sz [.int (nI d)]) (bm_Post D base (bm_Is (some (.int (bm_w d))) M sz)) 0 0 (bm_A base) := by
  match d, hd with
  | 0, _ => exact bc_M_worth0 l D ct base ad M sz
  | 1, _ => exact bc_M_worth1 l D ct base ad M sz
  | 2, _ => exact bc_M_worth2 l D ct base ad M sz
set_option maxHeartbeats 4000000 in
set_option maxRecDepth 100000 in
theorem bc_M_join (l : Launch) (D : va_G) (ct : Nat → ClassId) (base : Nat) (ad : Nat → Nat) (M : bm_Map) (sz : Nat) (d x y : Nat) (hd : d < 3) (hx1 : x < 2 ^ 30) (hy1 : y < 2 ^ 30) : Met l yM_join (bm_ws yM_join cM_join 13 (some .long)) { frames := 1, cells := 0, slots := 0, locals := 31 } (bm_Pre D ct base ad M sz [.long (lN x), .long (lN y), .int (nI d)]) (bm_Post D base (bm_Is (some (.long (lN (bm_jd d x y)))) M sz)) 0 0 (bm_A base) := by
  refine bm_ofB (cc := cM_join) (maxL := 13) (ret := (some .long)) (by decide +kernel) (Nat.le_of_ble_eq_true rfl) ?_
  intro vp ve s vm args below meth vc hx hb hr hlk hts hown hml hnm ls hl hz hM hG R Q hR hQ
  have hown : s.vm.findClass "BlindMintModel" = some vm.cls := hown
  have hK := hG.K
  have hS : va_S (bm_A base) s.heap s.heap [] := va_S.rf
  have hl : lv_has ls 13 [(0, .long (lN x)), (2, .long (lN y)), (4, .int (nI d))] := hl
  have hpb := bm_pb d
  have hqb := bm_qb d
  refine lv_iload hx hb dM_join_0 (lv_at hl 2 rfl) ?_
  refine lv_iconst (v := 0) hx hb dM_join_2 (by decide) ?_
  refine bm_callE (va_runS (As := [.int (nI d), .int 0]) (rest := []) ⟨hx, hb, hml, hown, hts⟩ (bc_M_factor_p l D ct base ad M sz d hd) (va_cwS 2 hts (bm_goodS bw_726 bw_727 bw_5 bw_728) rfl rfl rfl (by decide +kernel) (by rw [← hR]; exact ⟨Nat.le_of_ble_eq_true rfl, Nat.le_of_ble_eq_true rfl⟩)) (bm_preS hM hG hS hz) rfl rfl hl.1 rfl (lv_room (Nat.le_of_ble_eq_true rfl)) dM_join_3 (by rw [← hR]; exact ⟨Nat.le_of_ble_eq_true rfl, Nat.le_of_ble_eq_true rfl⟩)) hS (fun H locs hz hM hS => ?_)
  refine lv_lstore hx hb dM_join_6 hl (by decide) rfl (fun ls hl => ?_)
  have hl : lv_has ls 13 [(5, .long (lN (bm_p d))), (0, .long (lN x)), (2, .long (lN y)), (4, .int (nI d))] := hl
  refine lv_iload hx hb dM_join_8 (lv_at hl 3 rfl) ?_
  refine lv_iconst (v := 1) hx hb dM_join_10 (by decide) ?_
  refine bm_callE (va_runS (As := [.int (nI d), .int 1]) (rest := []) ⟨hx, hb, hml, hown, hts⟩ (bc_M_factor_q l D ct base ad M sz d hd) (va_cwS 2 hts (bm_goodS bw_726 bw_727 bw_5 bw_728) rfl rfl rfl (by decide +kernel) (by rw [← hR]; exact ⟨Nat.le_of_ble_eq_true rfl, Nat.le_of_ble_eq_true rfl⟩)) (bm_preS hM hG hS hz) rfl rfl hl.1 rfl (lv_room (Nat.le_of_ble_eq_true rfl)) dM_join_11 (by rw [← hR]; exact ⟨Nat.le_of_ble_eq_true rfl, Nat.le_of_ble_eq_true rfl⟩)) hS (fun H locs hz hM hS => ?_)
  refine lv_lstore hx hb dM_join_14 hl (by decide) rfl (fun ls hl => ?_)
  have hl : lv_has ls 13 [(7, .long (lN (bm_q d))), (5, .long (lN (bm_p d))), (0, .long (lN x)), (2, .long (lN y)), (4, .int (nI d))] := hl
  refine lv_lload hx hb dM_join_16 (lv_at hl 1 rfl) ?_
  refine lv_lload hx hb dM_join_18 (lv_at hl 0 rfl) ?_
  refine lv_ldc2 hx hb hown (hts _ bw_707) dM_join_20 ?_
  refine lv_lsub hx hb dM_join_23 ?_
  refine lv_topl (fun t1 e_t1 => ?_)
  have e_t1 : t1 = lN (bm_q d - 2) := by rw [e_t1]; exact lN_sub (b := 2) (by omega)
  subst e_t1
  refine lv_lload hx hb dM_join_24 (lv_at hl 0 rfl) ?_
  refine bm_callE (va_runS (As := [.long (lN (bm_p d)), .long (lN (bm_q d - 2)), .long (lN (bm_q d))]) (rest := []) ⟨hx, hb, hml, hown, hts⟩ (bc_M_power l D ct base ad M sz (bm_p d) (bm_q d - 2) (bm_q d) (by omega) (by omega) (by omega) (by omega)) (va_cwS 3 hts (bm_goodS bw_739 bw_740 bw_5 bw_741) rfl rfl rfl (by decide +kernel) (by rw [← hR]; exact ⟨Nat.le_of_ble_eq_true rfl, Nat.le_of_ble_eq_true rfl⟩)) (bm_preS hM hG hS hz) rfl rfl hl.1 rfl (lv_room (Nat.le_of_ble_eq_true rfl)) dM_join_26 (by rw [← hR]; exact ⟨Nat.le_of_ble_eq_true rfl, Nat.le_of_ble_eq_true rfl⟩)) hS (fun H locs hz hM hS => ?_)
  refine lv_lstore hx hb dM_join_29 hl (by decide) rfl (fun ls hl => ?_)
  have hl : lv_has ls 13 [(9, .long (lN (bm_p d ^ (bm_q d - 2) % bm_q d))), (7, .long (lN (bm_q d))), (5, .long (lN (bm_p d))), (0, .long (lN x)), (2, .long (lN y)), (4, .int (nI d))] := hl
  refine lv_lload_n hx hb dM_join_31 rfl (lv_at hl 4 rfl) ?_
  refine lv_lload_n hx hb dM_join_32 rfl (lv_at hl 3 rfl) ?_
  refine lv_lsub hx hb dM_join_33 ?_
  refine lv_lload hx hb dM_join_34 (lv_at hl 1 rfl) ?_
  refine lv_lrem hx hb dM_join_36 (bm_lN_ne (by omega) (by omega)) ?_
  refine lv_lload hx hb dM_join_37 (lv_at hl 1 rfl) ?_
  refine lv_ladd hx hb dM_join_39 ?_
  refine lv_lload hx hb dM_join_40 (lv_at hl 1 rfl) ?_
  refine lv_lrem hx hb dM_join_42 (bm_lN_ne (by omega) (by omega)) ?_
  refine lv_topl (fun t2 e_t2 => ?_)
  have e_t2 : t2 = lN (bm_fm (bm_q d) x y) := by rw [e_t2]; exact bm_fm_model (by omega) (by omega) (by omega) (by omega)
  subst e_t2
  refine lv_lload hx hb dM_join_43 (lv_at hl 0 rfl) ?_
  refine lv_lmul hx hb dM_join_45 ?_
  refine lv_lload hx hb dM_join_46 (lv_at hl 1 rfl) ?_
  refine lv_lrem hx hb dM_join_48 (bm_lN_ne (by omega) (by omega)) ?_
  have hfm : bm_fm (bm_q d) x y < bm_q d := bm_fm_lt (by omega)
  have hiv : bm_p d ^ (bm_q d - 2) % bm_q d < bm_q d := Nat.mod_lt _ (by omega)
  refine lv_topl (fun t3 e_t3 => ?_)
  have e_t3 : t3 = lN (bm_fm (bm_q d) x y * (bm_p d ^ (bm_q d - 2) % bm_q d) % bm_q d) := by rw [e_t3]; rw [lN_mul, pk_lRem (bm_mul_lt hfm hiv (by omega)) (by omega) (by omega)]
  subst e_t3
  refine lv_lstore hx hb dM_join_49 hl (by decide) rfl (fun ls hl => ?_)
  have hl : lv_has ls 13 [(11, .long (lN (bm_fm (bm_q d) x y * (bm_p d ^ (bm_q d - 2) % bm_q d) % bm_q d))), (9, .long (lN (bm_p d ^ (bm_q d - 2) % bm_q d))), (7, .long (lN (bm_q d))), (5, .long (lN (bm_p d))), (0, .long (lN x)), (2, .long (lN y)), (4, .int (nI d))] := hl
  refine lv_lload_n hx hb dM_join_51 rfl (lv_at hl 4 rfl) ?_
  refine lv_lload hx hb dM_join_52 (lv_at hl 3 rfl) ?_
  refine lv_lload hx hb dM_join_54 (lv_at hl 0 rfl) ?_
  refine lv_lmul hx hb dM_join_56 ?_
  refine lv_ladd hx hb dM_join_57 ?_
  refine lv_topl (fun t4 e_t4 => ?_)
  have e_t4 : t4 = lN (bm_jd d x y) := by rw [e_t4]; rw [lN_mul, lN_add]; rfl
  subst e_t4
  exact bm_lret hQ hx hb hr hlk hM hS ⟨rfl, rfl, hz⟩ (Nat.le_refl _) (Nat.le_refl _) dM_join_58
set_option maxHeartbeats 4000000 in
set_option maxRecDepth 100000 in
theorem bc_M_undo (l : Launch) (D : va_G) (ct : Nat → ClassId) (base : Nat) (ad : Nat → Nat) (M : bm_Map) (sz : Nat) (q k0 : Nat) (hk1 : k0 < 17) (hz0 : (1 + k0 * (q - 1)) % 17 = 0) (hlo : ∀ k, k < k0 → (1 + k * (q - 1)) % 17 ≠ 0) (hq1 : 1 < q) (hq2 : q < 2 ^ 30) : Met l yM_undo (bm_ws yM_undo cM_undo 4 (some .long)) { frames := 0, cells := 0, slots := 0, locals := 0 } (bm_Pre D ct base ad M sz [.long (lN q)]) (bm_Post D base (bm_Is (some (.long (lN (bm_u k0 q)))) M sz)) 0 0 (bm_A base) := by
  refine bm_ofB (cc := cM_undo) (maxL := 4) (ret := (some .long)) (by decide +kernel) (Nat.le_of_ble_eq_true rfl) ?_
  intro vp ve s vm args below meth vc hx hb hr hlk hts hown hml hnm ls hl hz hM hG R Q hR hQ
  have hown : s.vm.findClass "BlindMintModel" = some vm.cls := hown
  have hK := hG.K
  have hS : va_S (bm_A base) s.heap s.heap [] := va_S.rf
  have hl : lv_has ls 4 [(0, .long (lN q))] := hl
  refine lv_lconst (v := 0) hx hb dM_undo_0 (by decide) ?_
  refine lv_topl (fun t1 e_t1 => ?_)
  have e_t1 : t1 = lN 0 := by rw [e_t1]; rfl
  subst e_t1
  refine lv_lstore_n hx hb dM_undo_1 rfl hl (by decide) rfl (fun ls hl => ?_)
  have hl : lv_has ls 4 [(2, .long (lN 0)), (0, .long (lN q))] := hl
  have hl : lv_has ls 4 [(0, .long (lN q)), (2, .long (lN 0))] := lv_sub hl [1, 0] rfl
  have loop : ∀ (n : Nat) (k : Nat) (ls : Array Slot) (H : Heap) (locs : List Loc), k + n = k0 → lv_has ls 4 [(0, .long (lN q)), (2, .long (lN k))] → H.size = sz → bm_M D base M H → va_S (bm_A base) s.heap H locs → W vp l ve R s vm args below meth vc H locs 0 0 Q (F0 vm 2 ls []) := by
    intro n
    induction n with
    | zero =>
      intro k ls H locs hk hl hz hM hS
      obtain rfl : k = k0 := by omega
      have hkq : k * (q - 1) ≤ 16 * 2 ^ 30 := Nat.mul_le_mul (by omega) (by omega)
      refine lv_lconst (v := 1) hx hb dM_undo_2 (by decide) ?_
      refine lv_lload_n hx hb dM_undo_3 rfl (lv_at hl 1 rfl) ?_
      refine lv_lload_n hx hb dM_undo_4 rfl (lv_at hl 0 rfl) ?_
      refine lv_lconst (v := 1) hx hb dM_undo_5 (by decide) ?_
      refine lv_lsub hx hb dM_undo_6 ?_
      refine lv_lmul hx hb dM_undo_7 ?_
      refine lv_ladd hx hb dM_undo_8 ?_
      refine lv_topl (fun t2 e_t2 => ?_)
      have e_t2 : t2 = lN (1 + k * (q - 1)) := by rw [e_t2]; rw [show (lN q - 1 : Int64) = lN (q - 1) from lN_sub (b := 1) (by omega), lN_mul]; exact lN_add 1 _
      subst e_t2
      refine lv_ldc2 hx hb hown (hts _ bw_738) dM_undo_9 ?_
      refine lv_lrem hx hb dM_undo_12 (by decide) ?_
      refine lv_topl (fun t3 e_t3 => ?_)
      have e_t3 : t3 = lN ((1 + k * (q - 1)) % 17) := by rw [e_t3]; exact pk_lRem (b := 17) (by omega) (by decide) (by decide)
      subst e_t3
      refine lv_lconst (v := 0) hx hb dM_undo_13 (by decide) ?_
      refine W.lcmp hx hb dM_undo_14 ?_
      refine lv_if_eq (tgt := 25) hx hb dM_undo_15 rfl (fun h15 => ?_) (fun h15 => absurd (by rw [hz0]; decide) h15)
      refine lv_lconst (v := 1) hx hb dM_undo_25 (by decide) ?_
      refine lv_lload_n hx hb dM_undo_26 rfl (lv_at hl 1 rfl) ?_
      refine lv_lload_n hx hb dM_undo_27 rfl (lv_at hl 0 rfl) ?_
      refine lv_lconst (v := 1) hx hb dM_undo_28 (by decide) ?_
      refine lv_lsub hx hb dM_undo_29 ?_
      refine lv_lmul hx hb dM_undo_30 ?_
      refine lv_ladd hx hb dM_undo_31 ?_
      refine lv_topl (fun t4 e_t4 => ?_)
      have e_t4 : t4 = lN (1 + k * (q - 1)) := by rw [e_t4]; rw [show (lN q - 1 : Int64) = lN (q - 1) from lN_sub (b := 1) (by omega), lN_mul]; exact lN_add 1 _
      subst e_t4
      refine lv_ldc2 hx hb hown (hts _ bw_738) dM_undo_32 ?_
      refine lv_ldiv hx hb dM_undo_35 (by decide) ?_
      refine lv_topl (fun t5 e_t5 => ?_)
      have e_t5 : t5 = lN (bm_u k q) := by rw [e_t5]; exact pk_lDiv (b := 17) (by omega) (by decide) (by decide)
      subst e_t5
      exact bm_lret hQ hx hb hr hlk hM hS ⟨rfl, rfl, hz⟩ (Nat.le_refl _) (Nat.le_refl _) dM_undo_36
    | succ n ih =>
      intro k ls H locs hk hl hz hM hS
      have hkq : k * (q - 1) ≤ 16 * 2 ^ 30 := Nat.mul_le_mul (by omega) (by omega)
      refine lv_lconst (v := 1) hx hb dM_undo_2 (by decide) ?_
      refine lv_lload_n hx hb dM_undo_3 rfl (lv_at hl 1 rfl) ?_
      refine lv_lload_n hx hb dM_undo_4 rfl (lv_at hl 0 rfl) ?_
      refine lv_lconst (v := 1) hx hb dM_undo_5 (by decide) ?_
      refine lv_lsub hx hb dM_undo_6 ?_
      refine lv_lmul hx hb dM_undo_7 ?_
      refine lv_ladd hx hb dM_undo_8 ?_
      refine lv_topl (fun t6 e_t6 => ?_)
      have e_t6 : t6 = lN (1 + k * (q - 1)) := by rw [e_t6]; rw [show (lN q - 1 : Int64) = lN (q - 1) from lN_sub (b := 1) (by omega), lN_mul]; exact lN_add 1 _
      subst e_t6
      refine lv_ldc2 hx hb hown (hts _ bw_738) dM_undo_9 ?_
      refine lv_lrem hx hb dM_undo_12 (by decide) ?_
      refine lv_topl (fun t7 e_t7 => ?_)
      have e_t7 : t7 = lN ((1 + k * (q - 1)) % 17) := by rw [e_t7]; exact pk_lRem (b := 17) (by omega) (by decide) (by decide)
      subst e_t7
      refine lv_lconst (v := 0) hx hb dM_undo_13 (by decide) ?_
      refine W.lcmp hx hb dM_undo_14 ?_
      refine lv_if_eq (tgt := 25) hx hb dM_undo_15 rfl (fun h15 => absurd ((lg_cmp_eq _ _).mp h15) (bm_lN_ne (by have := hlo k (by omega); omega) (by omega))) (fun h15 => ?_)
      refine lv_lload_n hx hb dM_undo_18 rfl (lv_at hl 1 rfl) ?_
      refine lv_lconst (v := 1) hx hb dM_undo_19 (by decide) ?_
      refine lv_ladd hx hb dM_undo_20 ?_
      refine lv_topl (fun t8 e_t8 => ?_)
      have e_t8 : t8 = lN (k + 1) := by rw [e_t8]; exact lN_1 k
      subst e_t8
      refine lv_lstore_n hx hb dM_undo_21 rfl hl (by decide) rfl (fun ls hl => ?_)
      have hl : lv_has ls 4 [(2, .long (lN (k + 1))), (0, .long (lN q))] := hl
      refine lv_goto (tgt := 2) hx hb dM_undo_22 rfl ?_
      have hl : lv_has ls 4 [(0, .long (lN q)), (2, .long (lN (k + 1)))] := lv_sub hl [1, 0] rfl
      exact ih (k + 1) ls _ _ (by omega) hl hz hM hS
  exact loop k0 0 ls _ _ (by omega) hl hz hM hS
set_option maxHeartbeats 4000000 in
set_option maxRecDepth 100000 in
theorem bc_M_signed (l : Launch) (D : va_G) (ct : Nat → ClassId) (base : Nat) (ad : Nat → Nat) (M : bm_Map) (sz : Nat) (d k : Nat) (hd : d < 3) (hk1 : k < 2 ^ 62) : Met l yM_signed (bm_ws yM_signed cM_signed 7 (some .long)) { frames := 2, cells := 0, slots := 0, locals := 63 } (bm_Pre D ct base ad M sz [.long (lN k), .int (nI d)]) (bm_Post D base (bm_Is (some (.long (lN (bm_sg d k)))) M sz)) 0 0 (bm_A base) := by
  refine bm_ofB (cc := cM_signed) (maxL := 7) (ret := (some .long)) (by decide +kernel) (Nat.le_of_ble_eq_true rfl) ?_
  intro vp ve s vm args below meth vc hx hb hr hlk hts hown hml hnm ls hl hz hM hG R Q hR hQ
  have hown : s.vm.findClass "BlindMintModel" = some vm.cls := hown
  have hK := hG.K
  have hS : va_S (bm_A base) s.heap s.heap [] := va_S.rf
  have hl : lv_has ls 7 [(0, .long (lN k)), (2, .int (nI d))] := hl
  have hpb := bm_pb d
  have hqb := bm_qb d
  refine lv_iload_n hx hb dM_signed_0 rfl (lv_at hl 1 rfl) ?_
  refine lv_iconst (v := 0) hx hb dM_signed_1 (by decide) ?_
  refine bm_callE (va_runS (As := [.int (nI d), .int 0]) (rest := []) ⟨hx, hb, hml, hown, hts⟩ (bc_M_factor_p l D ct base ad M sz d hd) (va_cwS 2 hts (bm_goodS bw_726 bw_727 bw_5 bw_728) rfl rfl rfl (by decide +kernel) (by rw [← hR]; exact ⟨Nat.le_of_ble_eq_true rfl, Nat.le_of_ble_eq_true rfl⟩)) (bm_preS hM hG hS hz) rfl rfl hl.1 rfl (lv_room (Nat.le_of_ble_eq_true rfl)) dM_signed_2 (by rw [← hR]; exact ⟨Nat.le_of_ble_eq_true rfl, Nat.le_of_ble_eq_true rfl⟩)) hS (fun H locs hz hM hS => ?_)
  refine lv_lstore_n hx hb dM_signed_5 rfl hl (by decide) rfl (fun ls hl => ?_)
  have hl : lv_has ls 7 [(3, .long (lN (bm_p d))), (0, .long (lN k)), (2, .int (nI d))] := hl
  refine lv_iload_n hx hb dM_signed_6 rfl (lv_at hl 2 rfl) ?_
  refine lv_iconst (v := 1) hx hb dM_signed_7 (by decide) ?_
  refine bm_callE (va_runS (As := [.int (nI d), .int 1]) (rest := []) ⟨hx, hb, hml, hown, hts⟩ (bc_M_factor_q l D ct base ad M sz d hd) (va_cwS 2 hts (bm_goodS bw_726 bw_727 bw_5 bw_728) rfl rfl rfl (by decide +kernel) (by rw [← hR]; exact ⟨Nat.le_of_ble_eq_true rfl, Nat.le_of_ble_eq_true rfl⟩)) (bm_preS hM hG hS hz) rfl rfl hl.1 rfl (lv_room (Nat.le_of_ble_eq_true rfl)) dM_signed_8 (by rw [← hR]; exact ⟨Nat.le_of_ble_eq_true rfl, Nat.le_of_ble_eq_true rfl⟩)) hS (fun H locs hz hM hS => ?_)
  refine lv_lstore hx hb dM_signed_11 hl (by decide) rfl (fun ls hl => ?_)
  have hl : lv_has ls 7 [(5, .long (lN (bm_q d))), (3, .long (lN (bm_p d))), (0, .long (lN k)), (2, .int (nI d))] := hl
  refine lv_lload_n hx hb dM_signed_13 rfl (lv_at hl 2 rfl) ?_
  refine lv_lload_n hx hb dM_signed_14 rfl (lv_at hl 1 rfl) ?_
  refine bm_callE (va_runS (As := [.long (lN (bm_p d))]) (rest := [.long (lN k)]) ⟨hx, hb, hml, hown, hts⟩ (bc_M_undo l D ct base ad M sz (bm_p d) (bm_kp d) (bm_up_ok d).2.2.1 (bm_up_ok d).2.2.2.2.1 (bm_up_ok d).2.2.2.2.2 (by omega) (by omega)) (va_cwS 1 hts (bm_goodS bw_735 bw_736 bw_5 bw_737) rfl rfl rfl (by decide +kernel) (by rw [← hR]; exact ⟨Nat.le_of_ble_eq_true rfl, Nat.le_of_ble_eq_true rfl⟩)) (bm_preS hM hG hS hz) rfl rfl hl.1 rfl (lv_room (Nat.le_of_ble_eq_true rfl)) dM_signed_15 (by rw [← hR]; exact ⟨Nat.le_of_ble_eq_true rfl, Nat.le_of_ble_eq_true rfl⟩)) hS (fun H locs hz hM hS => ?_)
  refine lv_lload_n hx hb dM_signed_18 rfl (lv_at hl 1 rfl) ?_
  have hu_bm_p := (bm_up_ok d).2.2.2.1
  refine bm_callE (va_runS (As := [.long (lN k), .long (lN (bm_u (bm_kp d) (bm_p d))), .long (lN (bm_p d))]) (rest := []) ⟨hx, hb, hml, hown, hts⟩ (bc_M_power l D ct base ad M sz k (bm_u (bm_kp d) (bm_p d)) (bm_p d) (by omega) (by omega) (by omega) (by omega)) (va_cwS 3 hts (bm_goodS bw_739 bw_740 bw_5 bw_741) rfl rfl rfl (by decide +kernel) (by rw [← hR]; exact ⟨Nat.le_of_ble_eq_true rfl, Nat.le_of_ble_eq_true rfl⟩)) (bm_preS hM hG hS hz) rfl rfl hl.1 rfl (lv_room (Nat.le_of_ble_eq_true rfl)) dM_signed_19 (by rw [← hR]; exact ⟨Nat.le_of_ble_eq_true rfl, Nat.le_of_ble_eq_true rfl⟩)) hS (fun H locs hz hM hS => ?_)
  refine lv_lload_n hx hb dM_signed_22 rfl (lv_at hl 2 rfl) ?_
  refine lv_lload hx hb dM_signed_23 (lv_at hl 0 rfl) ?_
  refine bm_callE (va_runS (As := [.long (lN (bm_q d))]) (rest := [.long (lN k), .long (lN (k ^ bm_u (bm_kp d) (bm_p d) % bm_p d))]) ⟨hx, hb, hml, hown, hts⟩ (bc_M_undo l D ct base ad M sz (bm_q d) (bm_kq d) (bm_uq_ok d).2.2.1 (bm_uq_ok d).2.2.2.2.1 (bm_uq_ok d).2.2.2.2.2 (by omega) (by omega)) (va_cwS 1 hts (bm_goodS bw_735 bw_736 bw_5 bw_737) rfl rfl rfl (by decide +kernel) (by rw [← hR]; exact ⟨Nat.le_of_ble_eq_true rfl, Nat.le_of_ble_eq_true rfl⟩)) (bm_preS hM hG hS hz) rfl rfl hl.1 rfl (lv_room (Nat.le_of_ble_eq_true rfl)) dM_signed_25 (by rw [← hR]; exact ⟨Nat.le_of_ble_eq_true rfl, Nat.le_of_ble_eq_true rfl⟩)) hS (fun H locs hz hM hS => ?_)
  refine lv_lload hx hb dM_signed_28 (lv_at hl 0 rfl) ?_
  have hu_bm_q := (bm_uq_ok d).2.2.2.1
  refine bm_callE (va_runS (As := [.long (lN k), .long (lN (bm_u (bm_kq d) (bm_q d))), .long (lN (bm_q d))]) (rest := [.long (lN (k ^ bm_u (bm_kp d) (bm_p d) % bm_p d))]) ⟨hx, hb, hml, hown, hts⟩ (bc_M_power l D ct base ad M sz k (bm_u (bm_kq d) (bm_q d)) (bm_q d) (by omega) (by omega) (by omega) (by omega)) (va_cwS 3 hts (bm_goodS bw_739 bw_740 bw_5 bw_741) rfl rfl rfl (by decide +kernel) (by rw [← hR]; exact ⟨Nat.le_of_ble_eq_true rfl, Nat.le_of_ble_eq_true rfl⟩)) (bm_preS hM hG hS hz) rfl rfl hl.1 rfl (lv_room (Nat.le_of_ble_eq_true rfl)) dM_signed_30 (by rw [← hR]; exact ⟨Nat.le_of_ble_eq_true rfl, Nat.le_of_ble_eq_true rfl⟩)) hS (fun H locs hz hM hS => ?_)
  refine lv_iload_n hx hb dM_signed_33 rfl (lv_at hl 3 rfl) ?_
  have hm1 : k ^ bm_u (bm_kp d) (bm_p d) % bm_p d < bm_p d := Nat.mod_lt _ (by omega)
  have hm2 : k ^ bm_u (bm_kq d) (bm_q d) % bm_q d < bm_q d := Nat.mod_lt _ (by omega)
  refine bm_callE (va_runS (As := [.long (lN (k ^ bm_u (bm_kp d) (bm_p d) % bm_p d)), .long (lN (k ^ bm_u (bm_kq d) (bm_q d) % bm_q d)), .int (nI d)]) (rest := []) ⟨hx, hb, hml, hown, hts⟩ (bc_M_join l D ct base ad M sz d (k ^ bm_u (bm_kp d) (bm_p d) % bm_p d) (k ^ bm_u (bm_kq d) (bm_q d) % bm_q d) hd (by omega) (by omega)) (va_cwS 3 hts (bm_goodS bw_742 bw_743 bw_5 bw_744) rfl rfl rfl (by decide +kernel) (by rw [← hR]; exact ⟨Nat.le_of_ble_eq_true rfl, Nat.le_of_ble_eq_true rfl⟩)) (bm_preS hM hG hS hz) rfl rfl hl.1 rfl (lv_room (Nat.le_of_ble_eq_true rfl)) dM_signed_34 (by rw [← hR]; exact ⟨Nat.le_of_ble_eq_true rfl, Nat.le_of_ble_eq_true rfl⟩)) hS (fun H locs hz hM hS => ?_)
  exact bm_lret hQ hx hb hr hlk hM hS ⟨rfl, rfl, hz⟩ (Nat.le_refl _) (Nat.le_refl _) dM_signed_37
set_option maxHeartbeats 4000000 in
set_option maxRecDepth 100000 in
theorem bc_M_isSignature (l : Launch) (D : va_G) (ct : Nat → ClassId) (base : Nat) (ad : Nat → Nat) (M : bm_Map) (sz : Nat) (d : Nat) (x : Int64) (k : Nat) (hd : d < 3) (hk1 : k < 2 ^ 62) : Met l yM_isSignature (bm_ws yM_isSignature cM_isSignature 9 (some .boolean)) { frames := 1, cells := 0, slots := 0, locals := 31 } (bm_Pre D ct base ad M sz [.long x, .long (lN k), .int (nI d)]) (bm_Post D base (bm_Is (some (.int (bm_is d x k))) M sz)) 0 0 (bm_A base) := by
  refine bm_ofB (cc := cM_isSignature) (maxL := 9) (ret := (some .boolean)) (by decide +kernel) (Nat.le_of_ble_eq_true rfl) ?_
  intro vp ve s vm args below meth vc hx hb hr hlk hts hown hml hnm ls hl hz hM hG R Q hR hQ
  have hown : s.vm.findClass "BlindMintModel" = some vm.cls := hown
  have hK := hG.K
  have hS : va_S (bm_A base) s.heap s.heap [] := va_S.rf
  have hl : lv_has ls 9 [(0, .long x), (2, .long (lN k)), (4, .int (nI d))] := hl
  have hpb := bm_pb d
  have hqb := bm_qb d
  refine lv_iload hx hb dM_isSignature_0 (lv_at hl 2 rfl) ?_
  refine lv_iconst (v := 0) hx hb dM_isSignature_2 (by decide) ?_
  refine bm_callE (va_runS (As := [.int (nI d), .int 0]) (rest := []) ⟨hx, hb, hml, hown, hts⟩ (bc_M_factor_p l D ct base ad M sz d hd) (va_cwS 2 hts (bm_goodS bw_726 bw_727 bw_5 bw_728) rfl rfl rfl (by decide +kernel) (by rw [← hR]; exact ⟨Nat.le_of_ble_eq_true rfl, Nat.le_of_ble_eq_true rfl⟩)) (bm_preS hM hG hS hz) rfl rfl hl.1 rfl (lv_room (Nat.le_of_ble_eq_true rfl)) dM_isSignature_3 (by rw [← hR]; exact ⟨Nat.le_of_ble_eq_true rfl, Nat.le_of_ble_eq_true rfl⟩)) hS (fun H locs hz hM hS => ?_)
  refine lv_lstore hx hb dM_isSignature_6 hl (by decide) rfl (fun ls hl => ?_)
  have hl : lv_has ls 9 [(5, .long (lN (bm_p d))), (0, .long x), (2, .long (lN k)), (4, .int (nI d))] := hl
  refine lv_iload hx hb dM_isSignature_8 (lv_at hl 3 rfl) ?_
  refine lv_iconst (v := 1) hx hb dM_isSignature_10 (by decide) ?_
  refine bm_callE (va_runS (As := [.int (nI d), .int 1]) (rest := []) ⟨hx, hb, hml, hown, hts⟩ (bc_M_factor_q l D ct base ad M sz d hd) (va_cwS 2 hts (bm_goodS bw_726 bw_727 bw_5 bw_728) rfl rfl rfl (by decide +kernel) (by rw [← hR]; exact ⟨Nat.le_of_ble_eq_true rfl, Nat.le_of_ble_eq_true rfl⟩)) (bm_preS hM hG hS hz) rfl rfl hl.1 rfl (lv_room (Nat.le_of_ble_eq_true rfl)) dM_isSignature_11 (by rw [← hR]; exact ⟨Nat.le_of_ble_eq_true rfl, Nat.le_of_ble_eq_true rfl⟩)) hS (fun H locs hz hM hS => ?_)
  refine lv_lstore hx hb dM_isSignature_14 hl (by decide) rfl (fun ls hl => ?_)
  have hl : lv_has ls 9 [(7, .long (lN (bm_q d))), (5, .long (lN (bm_p d))), (0, .long x), (2, .long (lN k)), (4, .int (nI d))] := hl
  refine lv_lload_n hx hb dM_isSignature_16 rfl (lv_at hl 2 rfl) ?_
  refine lv_lconst (v := 0) hx hb dM_isSignature_17 (by decide) ?_
  refine W.lcmp hx hb dM_isSignature_18 ?_
  refine lv_if_lt (tgt := 70) hx hb dM_isSignature_19 rfl (fun h19 => ?_) (fun h19 => ?_)
  · rw [lg_cmp_lt] at h19
    refine lv_iconst (v := 0) hx hb dM_isSignature_70 (by decide) ?_
    exact bm_zret hQ hx hb hr hlk (by decide) hM hS ⟨by first | exact congrArg (fun z => some (Value.int z)) (if_pos (Or.inl h19) : bm_is d x k = 0).symm | exact congrArg (fun z => some (Value.int z)) (if_pos (Or.inr (Or.inl h29)) : bm_is d x k = 0).symm | exact congrArg (fun z => some (Value.int z)) (if_pos (Or.inr (Or.inr (Or.inl (bm_cmpNE h46)))) : bm_is d x k = 0).symm | exact congrArg (fun z => some (Value.int z)) (if_pos (Or.inr (Or.inr (Or.inr (bm_cmpNE h63)))) : bm_is d x k = 0).symm, rfl, hz⟩ (Nat.le_refl _) (Nat.le_refl _) dM_isSignature_71
  · rw [lg_cmp_lt] at h19
    obtain ⟨hn1, hn2⟩ := bm_is_n h19
    refine lv_lload_n hx hb dM_isSignature_22 rfl (lv_at hl 2 rfl) ?_
    refine lv_lload hx hb dM_isSignature_23 (lv_at hl 1 rfl) ?_
    refine lv_lload hx hb dM_isSignature_25 (lv_at hl 0 rfl) ?_
    refine lv_lmul hx hb dM_isSignature_27 ?_
    refine lv_topl (fun t1 e_t1 => ?_)
    have e_t1 : t1 = lN (bm_p d * bm_q d) := by rw [e_t1]; rw [lN_mul]
    subst e_t1
    refine W.lcmp hx hb dM_isSignature_28 ?_
    refine lv_if_ge (tgt := 70) hx hb dM_isSignature_29 rfl (fun h29 => ?_) (fun h29 => ?_)
    · rw [lg_cmp_ge] at h29
      refine lv_iconst (v := 0) hx hb dM_isSignature_70 (by decide) ?_
      exact bm_zret hQ hx hb hr hlk (by decide) hM hS ⟨by first | exact congrArg (fun z => some (Value.int z)) (if_pos (Or.inl h19) : bm_is d x k = 0).symm | exact congrArg (fun z => some (Value.int z)) (if_pos (Or.inr (Or.inl h29)) : bm_is d x k = 0).symm | exact congrArg (fun z => some (Value.int z)) (if_pos (Or.inr (Or.inr (Or.inl (bm_cmpNE h46)))) : bm_is d x k = 0).symm | exact congrArg (fun z => some (Value.int z)) (if_pos (Or.inr (Or.inr (Or.inr (bm_cmpNE h63)))) : bm_is d x k = 0).symm, rfl, hz⟩ (Nat.le_refl _) (Nat.le_refl _) dM_isSignature_71
    · rw [lg_cmp_ge] at h29
      refine lv_lload_n hx hb dM_isSignature_32 rfl (lv_at hl 2 rfl) ?_
      refine lv_topl (fun t2 e_t2 => ?_)
      have e_t2 : t2 = lN x.toBitVec.toNat := by rw [e_t2]; exact hn2
      subst e_t2
      refine lv_ldc2 hx hb hown (hts _ bw_738) dM_isSignature_33 ?_
      refine lv_lload hx hb dM_isSignature_36 (lv_at hl 1 rfl) ?_
      have hpwp : x.toBitVec.toNat ^ 17 % bm_p d < 2 ^ 63 := bm_mod63 (by omega) (by omega)
      refine bm_callE (va_runS (As := [.long (lN x.toBitVec.toNat), .long 17, .long (lN (bm_p d))]) (rest := []) ⟨hx, hb, hml, hown, hts⟩ (bc_M_power l D ct base ad M sz x.toBitVec.toNat 17 (bm_p d) hn1 (by decide) (by omega) (by omega)) (va_cwS 3 hts (bm_goodS bw_739 bw_740 bw_5 bw_741) rfl rfl rfl (by decide +kernel) (by rw [← hR]; exact ⟨Nat.le_of_ble_eq_true rfl, Nat.le_of_ble_eq_true rfl⟩)) (bm_preS hM hG hS hz) rfl rfl hl.1 rfl (lv_room (Nat.le_of_ble_eq_true rfl)) dM_isSignature_38 (by rw [← hR]; exact ⟨Nat.le_of_ble_eq_true rfl, Nat.le_of_ble_eq_true rfl⟩)) hS (fun H locs hz hM hS => ?_)
      refine lv_lload_n hx hb dM_isSignature_41 rfl (lv_at hl 3 rfl) ?_
      refine lv_lload hx hb dM_isSignature_42 (lv_at hl 1 rfl) ?_
      refine lv_lrem hx hb dM_isSignature_44 (bm_lN_ne (by omega) (by omega)) ?_
      refine lv_topl (fun t3 e_t3 => ?_)
      have e_t3 : t3 = lN (k % bm_p d) := by rw [e_t3]; rw [pk_lRem (by omega) (by omega) (by omega)]
      subst e_t3
      refine W.lcmp hx hb dM_isSignature_45 ?_
      refine lv_if_ne (tgt := 70) hx hb dM_isSignature_46 rfl (fun h46 => ?_) (fun h46 => ?_)
      · refine lv_iconst (v := 0) hx hb dM_isSignature_70 (by decide) ?_
        exact bm_zret hQ hx hb hr hlk (by decide) hM hS ⟨by first | exact congrArg (fun z => some (Value.int z)) (if_pos (Or.inl h19) : bm_is d x k = 0).symm | exact congrArg (fun z => some (Value.int z)) (if_pos (Or.inr (Or.inl h29)) : bm_is d x k = 0).symm | exact congrArg (fun z => some (Value.int z)) (if_pos (Or.inr (Or.inr (Or.inl (bm_cmpNE h46)))) : bm_is d x k = 0).symm | exact congrArg (fun z => some (Value.int z)) (if_pos (Or.inr (Or.inr (Or.inr (bm_cmpNE h63)))) : bm_is d x k = 0).symm, rfl, hz⟩ (Nat.le_refl _) (Nat.le_refl _) dM_isSignature_71
      · refine lv_lload_n hx hb dM_isSignature_49 rfl (lv_at hl 2 rfl) ?_
        refine lv_topl (fun t4 e_t4 => ?_)
        have e_t4 : t4 = lN x.toBitVec.toNat := by rw [e_t4]; exact hn2
        subst e_t4
        refine lv_ldc2 hx hb hown (hts _ bw_738) dM_isSignature_50 ?_
        refine lv_lload hx hb dM_isSignature_53 (lv_at hl 0 rfl) ?_
        have hpwq : x.toBitVec.toNat ^ 17 % bm_q d < 2 ^ 63 := bm_mod63 (by omega) (by omega)
        refine bm_callE (va_runS (As := [.long (lN x.toBitVec.toNat), .long 17, .long (lN (bm_q d))]) (rest := []) ⟨hx, hb, hml, hown, hts⟩ (bc_M_power l D ct base ad M sz x.toBitVec.toNat 17 (bm_q d) hn1 (by decide) (by omega) (by omega)) (va_cwS 3 hts (bm_goodS bw_739 bw_740 bw_5 bw_741) rfl rfl rfl (by decide +kernel) (by rw [← hR]; exact ⟨Nat.le_of_ble_eq_true rfl, Nat.le_of_ble_eq_true rfl⟩)) (bm_preS hM hG hS hz) rfl rfl hl.1 rfl (lv_room (Nat.le_of_ble_eq_true rfl)) dM_isSignature_55 (by rw [← hR]; exact ⟨Nat.le_of_ble_eq_true rfl, Nat.le_of_ble_eq_true rfl⟩)) hS (fun H locs hz hM hS => ?_)
        refine lv_lload_n hx hb dM_isSignature_58 rfl (lv_at hl 3 rfl) ?_
        refine lv_lload hx hb dM_isSignature_59 (lv_at hl 0 rfl) ?_
        refine lv_lrem hx hb dM_isSignature_61 (bm_lN_ne (by omega) (by omega)) ?_
        refine lv_topl (fun t5 e_t5 => ?_)
        have e_t5 : t5 = lN (k % bm_q d) := by rw [e_t5]; rw [pk_lRem (by omega) (by omega) (by omega)]
        subst e_t5
        refine W.lcmp hx hb dM_isSignature_62 ?_
        refine lv_if_ne (tgt := 70) hx hb dM_isSignature_63 rfl (fun h63 => ?_) (fun h63 => ?_)
        · refine lv_iconst (v := 0) hx hb dM_isSignature_70 (by decide) ?_
          exact bm_zret hQ hx hb hr hlk (by decide) hM hS ⟨by first | exact congrArg (fun z => some (Value.int z)) (if_pos (Or.inl h19) : bm_is d x k = 0).symm | exact congrArg (fun z => some (Value.int z)) (if_pos (Or.inr (Or.inl h29)) : bm_is d x k = 0).symm | exact congrArg (fun z => some (Value.int z)) (if_pos (Or.inr (Or.inr (Or.inl (bm_cmpNE h46)))) : bm_is d x k = 0).symm | exact congrArg (fun z => some (Value.int z)) (if_pos (Or.inr (Or.inr (Or.inr (bm_cmpNE h63)))) : bm_is d x k = 0).symm, rfl, hz⟩ (Nat.le_refl _) (Nat.le_refl _) dM_isSignature_71
        · refine lv_iconst (v := 1) hx hb dM_isSignature_66 (by decide) ?_
          refine lv_goto (tgt := 71) hx hb dM_isSignature_67 rfl ?_
          exact bm_zret hQ hx hb hr hlk (by decide) hM hS ⟨by first | exact congrArg (fun z => some (Value.int z)) (if_neg (fun q => q.elim h19 (fun q => q.elim h29 (fun q => q.elim (fun q => q (bm_cmpE hpwp (bm_mod63 (by omega) (by omega)) h46)) (fun q => q (bm_cmpE hpwq (bm_mod63 (by omega) (by omega)) h63))))) : bm_is d x k = 1).symm, rfl, hz⟩ (Nat.le_refl _) (Nat.le_refl _) dM_isSignature_71
end
section
set_option maxHeartbeats 4000000 in
set_option maxRecDepth 100000 in
theorem bc_M_blind (l : Launch) (D : va_G) (ct : Nat → ClassId) (base : Nat) (ad : Nat → Nat) (M : bm_Map) (sz : Nat) (d k r : Nat) (seed : Int64) (hd : d < 3) (hk1 : k < 2 ^ 62) (hsd : bm_h2 seed 100 = lN r) (hr1 : r < 2 ^ 60) : Met l yM_blind (bm_ws yM_blind cM_blind 11 (some .long)) { frames := 2, cells := 0, slots := 0, locals := 63 } (bm_Pre D ct base ad M sz [.long (lN k), .long seed, .int (nI d)]) (bm_Post D base (bm_Is (some (.long (lN (bm_bn d k (bm_bf d r))))) M sz)) 0 0 (bm_A base) := by
  refine bm_ofB (cc := cM_blind) (maxL := 11) (ret := (some .long)) (by decide +kernel) (Nat.le_of_ble_eq_true rfl) ?_
  intro vp ve s vm args below meth vc hx hb hr hlk hts hown hml hnm ls hl hz hM hG R Q hR hQ
  have hown : s.vm.findClass "BlindMintModel" = some vm.cls := hown
  have hK := hG.K
  have hS : va_S (bm_A base) s.heap s.heap [] := va_S.rf
  have hl : lv_has ls 11 [(0, .long (lN k)), (2, .long seed), (4, .int (nI d))] := hl
  have hpb := bm_pb d
  have hqb := bm_qb d
  refine lv_iload hx hb dM_blind_0 (lv_at hl 2 rfl) ?_
  refine lv_iconst (v := 0) hx hb dM_blind_2 (by decide) ?_
  refine bm_callE (va_runS (As := [.int (nI d), .int 0]) (rest := []) ⟨hx, hb, hml, hown, hts⟩ (bc_M_factor_p l D ct base ad M sz d hd) (va_cwS 2 hts (bm_goodS bw_726 bw_727 bw_5 bw_728) rfl rfl rfl (by decide +kernel) (by rw [← hR]; exact ⟨Nat.le_of_ble_eq_true rfl, Nat.le_of_ble_eq_true rfl⟩)) (bm_preS hM hG hS hz) rfl rfl hl.1 rfl (lv_room (Nat.le_of_ble_eq_true rfl)) dM_blind_3 (by rw [← hR]; exact ⟨Nat.le_of_ble_eq_true rfl, Nat.le_of_ble_eq_true rfl⟩)) hS (fun H locs hz hM hS => ?_)
  refine lv_lstore hx hb dM_blind_6 hl (by decide) rfl (fun ls hl => ?_)
  have hl : lv_has ls 11 [(5, .long (lN (bm_p d))), (0, .long (lN k)), (2, .long seed), (4, .int (nI d))] := hl
  refine lv_iload hx hb dM_blind_8 (lv_at hl 3 rfl) ?_
  refine lv_iconst (v := 1) hx hb dM_blind_10 (by decide) ?_
  refine bm_callE (va_runS (As := [.int (nI d), .int 1]) (rest := []) ⟨hx, hb, hml, hown, hts⟩ (bc_M_factor_q l D ct base ad M sz d hd) (va_cwS 2 hts (bm_goodS bw_726 bw_727 bw_5 bw_728) rfl rfl rfl (by decide +kernel) (by rw [← hR]; exact ⟨Nat.le_of_ble_eq_true rfl, Nat.le_of_ble_eq_true rfl⟩)) (bm_preS hM hG hS hz) rfl rfl hl.1 rfl (lv_room (Nat.le_of_ble_eq_true rfl)) dM_blind_11 (by rw [← hR]; exact ⟨Nat.le_of_ble_eq_true rfl, Nat.le_of_ble_eq_true rfl⟩)) hS (fun H locs hz hM hS => ?_)
  refine lv_lstore hx hb dM_blind_14 hl (by decide) rfl (fun ls hl => ?_)
  have hl : lv_has ls 11 [(7, .long (lN (bm_q d))), (5, .long (lN (bm_p d))), (0, .long (lN k)), (2, .long seed), (4, .int (nI d))] := hl
  refine lv_lload_n hx hb dM_blind_16 rfl (lv_at hl 3 rfl) ?_
  refine lv_ldc2 hx hb hown (hts _ bw_748) dM_blind_17 ?_
  refine bm_callE (va_runS (As := [.long seed, .long 100]) (rest := []) ⟨hx, hb, hml, hown, hts⟩ (bc_M_hash2 l D ct base ad M sz seed 100) (va_cwS 2 hts (bm_goodS bw_694 bw_695 bw_5 bw_696) rfl rfl rfl (by decide +kernel) (by rw [← hR]; exact ⟨Nat.le_of_ble_eq_true rfl, Nat.le_of_ble_eq_true rfl⟩)) (bm_preS hM hG hS hz) rfl rfl hl.1 rfl (lv_room (Nat.le_of_ble_eq_true rfl)) dM_blind_20 (by rw [← hR]; exact ⟨Nat.le_of_ble_eq_true rfl, Nat.le_of_ble_eq_true rfl⟩)) hS (fun H locs hz hM hS => ?_)
  refine lv_topl (fun t1 e_t1 => ?_)
  have e_t1 : t1 = lN r := by rw [e_t1]; exact hsd
  subst e_t1
  refine lv_lstore hx hb dM_blind_23 hl (by decide) rfl (fun ls hl => ?_)
  have hl : lv_has ls 11 [(9, .long (lN r)), (7, .long (lN (bm_q d))), (5, .long (lN (bm_p d))), (0, .long (lN k)), (2, .long seed), (4, .int (nI d))] := hl
  refine lv_lload hx hb dM_blind_25 (lv_at hl 0 rfl) ?_
  refine lv_lload hx hb dM_blind_27 (lv_at hl 2 rfl) ?_
  refine lv_lrem hx hb dM_blind_29 (bm_lN_ne (by omega) (by omega)) ?_
  refine lv_topl (fun t2 e_t2 => ?_)
  have e_t2 : t2 = lN ((r) % bm_p d) := by rw [e_t2]; rw [pk_lRem (by omega) (by omega) (by omega)]
  subst e_t2
  refine lv_lconst (v := 0) hx hb dM_blind_30 (by decide) ?_
  refine W.lcmp hx hb dM_blind_31 ?_
  refine lv_if_eq (tgt := 45) hx hb dM_blind_32 rfl (fun h32 => ?_) (fun h32 => ?_)
  · have a0 : (r) % bm_p d = 0 ∨ (r) % bm_q d = 0 := Or.inl (bm_cmp0 (bm_mod63 (by omega) (by omega)) h32)
    refine lv_lload hx hb dM_blind_45 (lv_at hl 0 rfl) ?_
    refine lv_lconst (v := 1) hx hb dM_blind_47 (by decide) ?_
    refine lv_ladd hx hb dM_blind_48 ?_
    refine lv_topl (fun t3 e_t3 => ?_)
    have e_t3 : t3 = lN (r + 1) := by rw [e_t3]; exact lN_1 _
    subst e_t3
    refine lv_lstore hx hb dM_blind_49 hl (by decide) rfl (fun ls hl => ?_)
    have hl : lv_has ls 11 [(9, .long (lN (r + 1))), (7, .long (lN (bm_q d))), (5, .long (lN (bm_p d))), (0, .long (lN k)), (2, .long seed), (4, .int (nI d))] := hl
    refine lv_goto (tgt := 25) hx hb dM_blind_51 rfl ?_
    refine lv_lload hx hb dM_blind_25 (lv_at hl 0 rfl) ?_
    refine lv_lload hx hb dM_blind_27 (lv_at hl 2 rfl) ?_
    refine lv_lrem hx hb dM_blind_29 (bm_lN_ne (by omega) (by omega)) ?_
    refine lv_topl (fun t4 e_t4 => ?_)
    have e_t4 : t4 = lN ((r + 1) % bm_p d) := by rw [e_t4]; rw [pk_lRem (by omega) (by omega) (by omega)]
    subst e_t4
    refine lv_lconst (v := 0) hx hb dM_blind_30 (by decide) ?_
    refine W.lcmp hx hb dM_blind_31 ?_
    refine lv_if_eq (tgt := 45) hx hb dM_blind_32 rfl (fun h32 => ?_) (fun h32 => ?_)
    · have a1 : (r + 1) % bm_p d = 0 ∨ (r + 1) % bm_q d = 0 := Or.inl (bm_cmp0 (bm_mod63 (by omega) (by omega)) h32)
      refine lv_lload hx hb dM_blind_45 (lv_at hl 0 rfl) ?_
      refine lv_lconst (v := 1) hx hb dM_blind_47 (by decide) ?_
      refine lv_ladd hx hb dM_blind_48 ?_
      refine lv_topl (fun t5 e_t5 => ?_)
      have e_t5 : t5 = lN (r + 1 + 1) := by rw [e_t5]; exact lN_1 _
      subst e_t5
      refine lv_lstore hx hb dM_blind_49 hl (by decide) rfl (fun ls hl => ?_)
      have hl : lv_has ls 11 [(9, .long (lN (r + 1 + 1))), (7, .long (lN (bm_q d))), (5, .long (lN (bm_p d))), (0, .long (lN k)), (2, .long seed), (4, .int (nI d))] := hl
      refine lv_goto (tgt := 25) hx hb dM_blind_51 rfl ?_
      refine lv_lload hx hb dM_blind_25 (lv_at hl 0 rfl) ?_
      refine lv_lload hx hb dM_blind_27 (lv_at hl 2 rfl) ?_
      refine lv_lrem hx hb dM_blind_29 (bm_lN_ne (by omega) (by omega)) ?_
      refine lv_topl (fun t6 e_t6 => ?_)
      have e_t6 : t6 = lN ((r + 1 + 1) % bm_p d) := by rw [e_t6]; rw [pk_lRem (by omega) (by omega) (by omega)]
      subst e_t6
      refine lv_lconst (v := 0) hx hb dM_blind_30 (by decide) ?_
      refine W.lcmp hx hb dM_blind_31 ?_
      refine lv_if_eq (tgt := 45) hx hb dM_blind_32 rfl (fun h32 => absurd (bm_cmp0 (a := (r + 1 + 1) % bm_p d) (bm_mod63 (by omega) (by omega)) h32) (by have h9 := (bm_bf_ok d r).1; rw [← bm_bf_2 a0 a1] at h9; exact h9)) (fun h32 => ?_)
      refine lv_lload hx hb dM_blind_35 (lv_at hl 0 rfl) ?_
      refine lv_lload hx hb dM_blind_37 (lv_at hl 1 rfl) ?_
      refine lv_lrem hx hb dM_blind_39 (bm_lN_ne (by omega) (by omega)) ?_
      refine lv_topl (fun t7 e_t7 => ?_)
      have e_t7 : t7 = lN ((r + 1 + 1) % bm_q d) := by rw [e_t7]; rw [pk_lRem (by omega) (by omega) (by omega)]
      subst e_t7
      refine lv_lconst (v := 0) hx hb dM_blind_40 (by decide) ?_
      refine W.lcmp hx hb dM_blind_41 ?_
      refine lv_if_ne (tgt := 54) hx hb dM_blind_42 rfl (fun h42 => ?_) (fun h42 => absurd (bm_cmp0 (a := (r + 1 + 1) % bm_q d) (bm_mod63 (by omega) (by omega)) h42) (by have h9 := (bm_bf_ok d r).2.1; rw [← bm_bf_2 a0 a1] at h9; exact h9))
      have hbf := bm_bf_2 a0 a1
      rw [hbf] at hl
      have hb9 := (bm_bf_ok d r).2.2
      have hl : lv_has ls 11 [(9, .long (lN (bm_bf d r))), (7, .long (lN (bm_q d))), (5, .long (lN (bm_p d))), (0, .long (lN k)), (2, .long seed), (4, .int (nI d))] := hl
      refine lv_lload_n hx hb dM_blind_54 rfl (lv_at hl 3 rfl) ?_
      refine lv_lload hx hb dM_blind_55 (lv_at hl 2 rfl) ?_
      refine lv_lrem hx hb dM_blind_57 (bm_lN_ne (by omega) (by omega)) ?_
      refine lv_topl (fun t8 e_t8 => ?_)
      have e_t8 : t8 = lN (k % bm_p d) := by rw [e_t8]; rw [pk_lRem (by omega) (by omega) (by omega)]
      subst e_t8
      refine lv_lload hx hb dM_blind_58 (lv_at hl 0 rfl) ?_
      refine lv_ldc2 hx hb hown (hts _ bw_738) dM_blind_60 ?_
      refine lv_lload hx hb dM_blind_63 (lv_at hl 2 rfl) ?_
      refine bm_callE (va_runS (As := [.long (lN (bm_bf d r)), .long 17, .long (lN (bm_p d))]) (rest := [.long (lN (k % bm_p d))]) ⟨hx, hb, hml, hown, hts⟩ (bc_M_power l D ct base ad M sz (bm_bf d r) 17 (bm_p d) (by omega) (by decide) (by omega) (by omega)) (va_cwS 3 hts (bm_goodS bw_739 bw_740 bw_5 bw_741) rfl rfl rfl (by decide +kernel) (by rw [← hR]; exact ⟨Nat.le_of_ble_eq_true rfl, Nat.le_of_ble_eq_true rfl⟩)) (bm_preS hM hG hS hz) rfl rfl hl.1 rfl (lv_room (Nat.le_of_ble_eq_true rfl)) dM_blind_65 (by rw [← hR]; exact ⟨Nat.le_of_ble_eq_true rfl, Nat.le_of_ble_eq_true rfl⟩)) hS (fun H locs hz hM hS => ?_)
      refine lv_lmul hx hb dM_blind_68 ?_
      refine lv_lload hx hb dM_blind_69 (lv_at hl 2 rfl) ?_
      refine lv_lrem hx hb dM_blind_71 (bm_lN_ne (by omega) (by omega)) ?_
      have hkp : k % bm_p d < bm_p d := Nat.mod_lt _ (by omega)
      have hrp : bm_bf d r ^ 17 % bm_p d < bm_p d := Nat.mod_lt _ (by omega)
      refine lv_topl (fun t9 e_t9 => ?_)
      have e_t9 : t9 = lN (k * bm_bf d r ^ 17 % bm_p d) := by rw [e_t9]; rw [lN_mul, pk_lRem (bm_mul_lt hkp hrp (by omega)) (by omega) (by omega), ← Nat.mul_mod]
      subst e_t9
      refine lv_lload_n hx hb dM_blind_72 rfl (lv_at hl 3 rfl) ?_
      refine lv_lload hx hb dM_blind_73 (lv_at hl 1 rfl) ?_
      refine lv_lrem hx hb dM_blind_75 (bm_lN_ne (by omega) (by omega)) ?_
      refine lv_topl (fun t10 e_t10 => ?_)
      have e_t10 : t10 = lN (k % bm_q d) := by rw [e_t10]; rw [pk_lRem (by omega) (by omega) (by omega)]
      subst e_t10
      refine lv_lload hx hb dM_blind_76 (lv_at hl 0 rfl) ?_
      refine lv_ldc2 hx hb hown (hts _ bw_738) dM_blind_78 ?_
      refine lv_lload hx hb dM_blind_81 (lv_at hl 1 rfl) ?_
      refine bm_callE (va_runS (As := [.long (lN (bm_bf d r)), .long 17, .long (lN (bm_q d))]) (rest := [.long (lN (k % bm_q d)), .long (lN (k * bm_bf d r ^ 17 % bm_p d))]) ⟨hx, hb, hml, hown, hts⟩ (bc_M_power l D ct base ad M sz (bm_bf d r) 17 (bm_q d) (by omega) (by decide) (by omega) (by omega)) (va_cwS 3 hts (bm_goodS bw_739 bw_740 bw_5 bw_741) rfl rfl rfl (by decide +kernel) (by rw [← hR]; exact ⟨Nat.le_of_ble_eq_true rfl, Nat.le_of_ble_eq_true rfl⟩)) (bm_preS hM hG hS hz) rfl rfl hl.1 rfl (lv_room (Nat.le_of_ble_eq_true rfl)) dM_blind_83 (by rw [← hR]; exact ⟨Nat.le_of_ble_eq_true rfl, Nat.le_of_ble_eq_true rfl⟩)) hS (fun H locs hz hM hS => ?_)
      refine lv_lmul hx hb dM_blind_86 ?_
      refine lv_lload hx hb dM_blind_87 (lv_at hl 1 rfl) ?_
      refine lv_lrem hx hb dM_blind_89 (bm_lN_ne (by omega) (by omega)) ?_
      have hkq : k % bm_q d < bm_q d := Nat.mod_lt _ (by omega)
      have hrq : bm_bf d r ^ 17 % bm_q d < bm_q d := Nat.mod_lt _ (by omega)
      refine lv_topl (fun t11 e_t11 => ?_)
      have e_t11 : t11 = lN (k * bm_bf d r ^ 17 % bm_q d) := by rw [e_t11]; rw [lN_mul, pk_lRem (bm_mul_lt hkq hrq (by omega)) (by omega) (by omega), ← Nat.mul_mod]
      subst e_t11
      refine lv_iload hx hb dM_blind_90 (lv_at hl 5 rfl) ?_
      have hm1 : k * bm_bf d r ^ 17 % bm_p d < bm_p d := Nat.mod_lt _ (by omega)
      have hm2 : k * bm_bf d r ^ 17 % bm_q d < bm_q d := Nat.mod_lt _ (by omega)
      refine bm_callE (va_runS (As := [.long (lN (k * bm_bf d r ^ 17 % bm_p d)), .long (lN (k * bm_bf d r ^ 17 % bm_q d)), .int (nI d)]) (rest := []) ⟨hx, hb, hml, hown, hts⟩ (bc_M_join l D ct base ad M sz d (k * bm_bf d r ^ 17 % bm_p d) (k * bm_bf d r ^ 17 % bm_q d) hd (by omega) (by omega)) (va_cwS 3 hts (bm_goodS bw_742 bw_743 bw_5 bw_744) rfl rfl rfl (by decide +kernel) (by rw [← hR]; exact ⟨Nat.le_of_ble_eq_true rfl, Nat.le_of_ble_eq_true rfl⟩)) (bm_preS hM hG hS hz) rfl rfl hl.1 rfl (lv_room (Nat.le_of_ble_eq_true rfl)) dM_blind_92 (by rw [← hR]; exact ⟨Nat.le_of_ble_eq_true rfl, Nat.le_of_ble_eq_true rfl⟩)) hS (fun H locs hz hM hS => ?_)
      exact bm_lret hQ hx hb hr hlk hM hS ⟨rfl, rfl, hz⟩ (Nat.le_refl _) (Nat.le_refl _) dM_blind_95
    · have b1 := bm_cmpn h32
      refine lv_lload hx hb dM_blind_35 (lv_at hl 0 rfl) ?_
      refine lv_lload hx hb dM_blind_37 (lv_at hl 1 rfl) ?_
      refine lv_lrem hx hb dM_blind_39 (bm_lN_ne (by omega) (by omega)) ?_
      refine lv_topl (fun t12 e_t12 => ?_)
      have e_t12 : t12 = lN ((r + 1) % bm_q d) := by rw [e_t12]; rw [pk_lRem (by omega) (by omega) (by omega)]
      subst e_t12
      refine lv_lconst (v := 0) hx hb dM_blind_40 (by decide) ?_
      refine W.lcmp hx hb dM_blind_41 ?_
      refine lv_if_ne (tgt := 54) hx hb dM_blind_42 rfl (fun h42 => ?_) (fun h42 => ?_)
      · have c1 := bm_cmpn h42
        have hbf := bm_bf_1 a0 b1 c1
        rw [hbf] at hl
        have hb9 := (bm_bf_ok d r).2.2
        have hl : lv_has ls 11 [(9, .long (lN (bm_bf d r))), (7, .long (lN (bm_q d))), (5, .long (lN (bm_p d))), (0, .long (lN k)), (2, .long seed), (4, .int (nI d))] := hl
        refine lv_lload_n hx hb dM_blind_54 rfl (lv_at hl 3 rfl) ?_
        refine lv_lload hx hb dM_blind_55 (lv_at hl 2 rfl) ?_
        refine lv_lrem hx hb dM_blind_57 (bm_lN_ne (by omega) (by omega)) ?_
        refine lv_topl (fun t13 e_t13 => ?_)
        have e_t13 : t13 = lN (k % bm_p d) := by rw [e_t13]; rw [pk_lRem (by omega) (by omega) (by omega)]
        subst e_t13
        refine lv_lload hx hb dM_blind_58 (lv_at hl 0 rfl) ?_
        refine lv_ldc2 hx hb hown (hts _ bw_738) dM_blind_60 ?_
        refine lv_lload hx hb dM_blind_63 (lv_at hl 2 rfl) ?_
        refine bm_callE (va_runS (As := [.long (lN (bm_bf d r)), .long 17, .long (lN (bm_p d))]) (rest := [.long (lN (k % bm_p d))]) ⟨hx, hb, hml, hown, hts⟩ (bc_M_power l D ct base ad M sz (bm_bf d r) 17 (bm_p d) (by omega) (by decide) (by omega) (by omega)) (va_cwS 3 hts (bm_goodS bw_739 bw_740 bw_5 bw_741) rfl rfl rfl (by decide +kernel) (by rw [← hR]; exact ⟨Nat.le_of_ble_eq_true rfl, Nat.le_of_ble_eq_true rfl⟩)) (bm_preS hM hG hS hz) rfl rfl hl.1 rfl (lv_room (Nat.le_of_ble_eq_true rfl)) dM_blind_65 (by rw [← hR]; exact ⟨Nat.le_of_ble_eq_true rfl, Nat.le_of_ble_eq_true rfl⟩)) hS (fun H locs hz hM hS => ?_)
        refine lv_lmul hx hb dM_blind_68 ?_
        refine lv_lload hx hb dM_blind_69 (lv_at hl 2 rfl) ?_
        refine lv_lrem hx hb dM_blind_71 (bm_lN_ne (by omega) (by omega)) ?_
        have hkp : k % bm_p d < bm_p d := Nat.mod_lt _ (by omega)
        have hrp : bm_bf d r ^ 17 % bm_p d < bm_p d := Nat.mod_lt _ (by omega)
        refine lv_topl (fun t14 e_t14 => ?_)
        have e_t14 : t14 = lN (k * bm_bf d r ^ 17 % bm_p d) := by rw [e_t14]; rw [lN_mul, pk_lRem (bm_mul_lt hkp hrp (by omega)) (by omega) (by omega), ← Nat.mul_mod]
        subst e_t14
        refine lv_lload_n hx hb dM_blind_72 rfl (lv_at hl 3 rfl) ?_
        refine lv_lload hx hb dM_blind_73 (lv_at hl 1 rfl) ?_
        refine lv_lrem hx hb dM_blind_75 (bm_lN_ne (by omega) (by omega)) ?_
        refine lv_topl (fun t15 e_t15 => ?_)
        have e_t15 : t15 = lN (k % bm_q d) := by rw [e_t15]; rw [pk_lRem (by omega) (by omega) (by omega)]
        subst e_t15
        refine lv_lload hx hb dM_blind_76 (lv_at hl 0 rfl) ?_
        refine lv_ldc2 hx hb hown (hts _ bw_738) dM_blind_78 ?_
        refine lv_lload hx hb dM_blind_81 (lv_at hl 1 rfl) ?_
        refine bm_callE (va_runS (As := [.long (lN (bm_bf d r)), .long 17, .long (lN (bm_q d))]) (rest := [.long (lN (k % bm_q d)), .long (lN (k * bm_bf d r ^ 17 % bm_p d))]) ⟨hx, hb, hml, hown, hts⟩ (bc_M_power l D ct base ad M sz (bm_bf d r) 17 (bm_q d) (by omega) (by decide) (by omega) (by omega)) (va_cwS 3 hts (bm_goodS bw_739 bw_740 bw_5 bw_741) rfl rfl rfl (by decide +kernel) (by rw [← hR]; exact ⟨Nat.le_of_ble_eq_true rfl, Nat.le_of_ble_eq_true rfl⟩)) (bm_preS hM hG hS hz) rfl rfl hl.1 rfl (lv_room (Nat.le_of_ble_eq_true rfl)) dM_blind_83 (by rw [← hR]; exact ⟨Nat.le_of_ble_eq_true rfl, Nat.le_of_ble_eq_true rfl⟩)) hS (fun H locs hz hM hS => ?_)
        refine lv_lmul hx hb dM_blind_86 ?_
        refine lv_lload hx hb dM_blind_87 (lv_at hl 1 rfl) ?_
        refine lv_lrem hx hb dM_blind_89 (bm_lN_ne (by omega) (by omega)) ?_
        have hkq : k % bm_q d < bm_q d := Nat.mod_lt _ (by omega)
        have hrq : bm_bf d r ^ 17 % bm_q d < bm_q d := Nat.mod_lt _ (by omega)
        refine lv_topl (fun t16 e_t16 => ?_)
        have e_t16 : t16 = lN (k * bm_bf d r ^ 17 % bm_q d) := by rw [e_t16]; rw [lN_mul, pk_lRem (bm_mul_lt hkq hrq (by omega)) (by omega) (by omega), ← Nat.mul_mod]
        subst e_t16
        refine lv_iload hx hb dM_blind_90 (lv_at hl 5 rfl) ?_
        have hm1 : k * bm_bf d r ^ 17 % bm_p d < bm_p d := Nat.mod_lt _ (by omega)
        have hm2 : k * bm_bf d r ^ 17 % bm_q d < bm_q d := Nat.mod_lt _ (by omega)
        refine bm_callE (va_runS (As := [.long (lN (k * bm_bf d r ^ 17 % bm_p d)), .long (lN (k * bm_bf d r ^ 17 % bm_q d)), .int (nI d)]) (rest := []) ⟨hx, hb, hml, hown, hts⟩ (bc_M_join l D ct base ad M sz d (k * bm_bf d r ^ 17 % bm_p d) (k * bm_bf d r ^ 17 % bm_q d) hd (by omega) (by omega)) (va_cwS 3 hts (bm_goodS bw_742 bw_743 bw_5 bw_744) rfl rfl rfl (by decide +kernel) (by rw [← hR]; exact ⟨Nat.le_of_ble_eq_true rfl, Nat.le_of_ble_eq_true rfl⟩)) (bm_preS hM hG hS hz) rfl rfl hl.1 rfl (lv_room (Nat.le_of_ble_eq_true rfl)) dM_blind_92 (by rw [← hR]; exact ⟨Nat.le_of_ble_eq_true rfl, Nat.le_of_ble_eq_true rfl⟩)) hS (fun H locs hz hM hS => ?_)
        exact bm_lret hQ hx hb hr hlk hM hS ⟨rfl, rfl, hz⟩ (Nat.le_refl _) (Nat.le_refl _) dM_blind_95
      · have a1 : (r + 1) % bm_p d = 0 ∨ (r + 1) % bm_q d = 0 := Or.inr (bm_cmp0 (bm_mod63 (by omega) (by omega)) h42)
        refine lv_lload hx hb dM_blind_45 (lv_at hl 0 rfl) ?_
        refine lv_lconst (v := 1) hx hb dM_blind_47 (by decide) ?_
        refine lv_ladd hx hb dM_blind_48 ?_
        refine lv_topl (fun t17 e_t17 => ?_)
        have e_t17 : t17 = lN (r + 1 + 1) := by rw [e_t17]; exact lN_1 _
        subst e_t17
        refine lv_lstore hx hb dM_blind_49 hl (by decide) rfl (fun ls hl => ?_)
        have hl : lv_has ls 11 [(9, .long (lN (r + 1 + 1))), (7, .long (lN (bm_q d))), (5, .long (lN (bm_p d))), (0, .long (lN k)), (2, .long seed), (4, .int (nI d))] := hl
        refine lv_goto (tgt := 25) hx hb dM_blind_51 rfl ?_
        refine lv_lload hx hb dM_blind_25 (lv_at hl 0 rfl) ?_
        refine lv_lload hx hb dM_blind_27 (lv_at hl 2 rfl) ?_
        refine lv_lrem hx hb dM_blind_29 (bm_lN_ne (by omega) (by omega)) ?_
        refine lv_topl (fun t18 e_t18 => ?_)
        have e_t18 : t18 = lN ((r + 1 + 1) % bm_p d) := by rw [e_t18]; rw [pk_lRem (by omega) (by omega) (by omega)]
        subst e_t18
        refine lv_lconst (v := 0) hx hb dM_blind_30 (by decide) ?_
        refine W.lcmp hx hb dM_blind_31 ?_
        refine lv_if_eq (tgt := 45) hx hb dM_blind_32 rfl (fun h32 => absurd (bm_cmp0 (a := (r + 1 + 1) % bm_p d) (bm_mod63 (by omega) (by omega)) h32) (by have h9 := (bm_bf_ok d r).1; rw [← bm_bf_2 a0 a1] at h9; exact h9)) (fun h32 => ?_)
        refine lv_lload hx hb dM_blind_35 (lv_at hl 0 rfl) ?_
        refine lv_lload hx hb dM_blind_37 (lv_at hl 1 rfl) ?_
        refine lv_lrem hx hb dM_blind_39 (bm_lN_ne (by omega) (by omega)) ?_
        refine lv_topl (fun t19 e_t19 => ?_)
        have e_t19 : t19 = lN ((r + 1 + 1) % bm_q d) := by rw [e_t19]; rw [pk_lRem (by omega) (by omega) (by omega)]
        subst e_t19
        refine lv_lconst (v := 0) hx hb dM_blind_40 (by decide) ?_
        refine W.lcmp hx hb dM_blind_41 ?_
        refine lv_if_ne (tgt := 54) hx hb dM_blind_42 rfl (fun h42 => ?_) (fun h42 => absurd (bm_cmp0 (a := (r + 1 + 1) % bm_q d) (bm_mod63 (by omega) (by omega)) h42) (by have h9 := (bm_bf_ok d r).2.1; rw [← bm_bf_2 a0 a1] at h9; exact h9))
        have hbf := bm_bf_2 a0 a1
        rw [hbf] at hl
        have hb9 := (bm_bf_ok d r).2.2
        have hl : lv_has ls 11 [(9, .long (lN (bm_bf d r))), (7, .long (lN (bm_q d))), (5, .long (lN (bm_p d))), (0, .long (lN k)), (2, .long seed), (4, .int (nI d))] := hl
        refine lv_lload_n hx hb dM_blind_54 rfl (lv_at hl 3 rfl) ?_
        refine lv_lload hx hb dM_blind_55 (lv_at hl 2 rfl) ?_
        refine lv_lrem hx hb dM_blind_57 (bm_lN_ne (by omega) (by omega)) ?_
        refine lv_topl (fun t20 e_t20 => ?_)
        have e_t20 : t20 = lN (k % bm_p d) := by rw [e_t20]; rw [pk_lRem (by omega) (by omega) (by omega)]
        subst e_t20
        refine lv_lload hx hb dM_blind_58 (lv_at hl 0 rfl) ?_
        refine lv_ldc2 hx hb hown (hts _ bw_738) dM_blind_60 ?_
        refine lv_lload hx hb dM_blind_63 (lv_at hl 2 rfl) ?_
        refine bm_callE (va_runS (As := [.long (lN (bm_bf d r)), .long 17, .long (lN (bm_p d))]) (rest := [.long (lN (k % bm_p d))]) ⟨hx, hb, hml, hown, hts⟩ (bc_M_power l D ct base ad M sz (bm_bf d r) 17 (bm_p d) (by omega) (by decide) (by omega) (by omega)) (va_cwS 3 hts (bm_goodS bw_739 bw_740 bw_5 bw_741) rfl rfl rfl (by decide +kernel) (by rw [← hR]; exact ⟨Nat.le_of_ble_eq_true rfl, Nat.le_of_ble_eq_true rfl⟩)) (bm_preS hM hG hS hz) rfl rfl hl.1 rfl (lv_room (Nat.le_of_ble_eq_true rfl)) dM_blind_65 (by rw [← hR]; exact ⟨Nat.le_of_ble_eq_true rfl, Nat.le_of_ble_eq_true rfl⟩)) hS (fun H locs hz hM hS => ?_)
        refine lv_lmul hx hb dM_blind_68 ?_
        refine lv_lload hx hb dM_blind_69 (lv_at hl 2 rfl) ?_
        refine lv_lrem hx hb dM_blind_71 (bm_lN_ne (by omega) (by omega)) ?_
        have hkp : k % bm_p d < bm_p d := Nat.mod_lt _ (by omega)
        have hrp : bm_bf d r ^ 17 % bm_p d < bm_p d := Nat.mod_lt _ (by omega)
        refine lv_topl (fun t21 e_t21 => ?_)
        have e_t21 : t21 = lN (k * bm_bf d r ^ 17 % bm_p d) := by rw [e_t21]; rw [lN_mul, pk_lRem (bm_mul_lt hkp hrp (by omega)) (by omega) (by omega), ← Nat.mul_mod]
        subst e_t21
        refine lv_lload_n hx hb dM_blind_72 rfl (lv_at hl 3 rfl) ?_
        refine lv_lload hx hb dM_blind_73 (lv_at hl 1 rfl) ?_
        refine lv_lrem hx hb dM_blind_75 (bm_lN_ne (by omega) (by omega)) ?_
        refine lv_topl (fun t22 e_t22 => ?_)
        have e_t22 : t22 = lN (k % bm_q d) := by rw [e_t22]; rw [pk_lRem (by omega) (by omega) (by omega)]
        subst e_t22
        refine lv_lload hx hb dM_blind_76 (lv_at hl 0 rfl) ?_
        refine lv_ldc2 hx hb hown (hts _ bw_738) dM_blind_78 ?_
        refine lv_lload hx hb dM_blind_81 (lv_at hl 1 rfl) ?_
        refine bm_callE (va_runS (As := [.long (lN (bm_bf d r)), .long 17, .long (lN (bm_q d))]) (rest := [.long (lN (k % bm_q d)), .long (lN (k * bm_bf d r ^ 17 % bm_p d))]) ⟨hx, hb, hml, hown, hts⟩ (bc_M_power l D ct base ad M sz (bm_bf d r) 17 (bm_q d) (by omega) (by decide) (by omega) (by omega)) (va_cwS 3 hts (bm_goodS bw_739 bw_740 bw_5 bw_741) rfl rfl rfl (by decide +kernel) (by rw [← hR]; exact ⟨Nat.le_of_ble_eq_true rfl, Nat.le_of_ble_eq_true rfl⟩)) (bm_preS hM hG hS hz) rfl rfl hl.1 rfl (lv_room (Nat.le_of_ble_eq_true rfl)) dM_blind_83 (by rw [← hR]; exact ⟨Nat.le_of_ble_eq_true rfl, Nat.le_of_ble_eq_true rfl⟩)) hS (fun H locs hz hM hS => ?_)
        refine lv_lmul hx hb dM_blind_86 ?_
        refine lv_lload hx hb dM_blind_87 (lv_at hl 1 rfl) ?_
        refine lv_lrem hx hb dM_blind_89 (bm_lN_ne (by omega) (by omega)) ?_
        have hkq : k % bm_q d < bm_q d := Nat.mod_lt _ (by omega)
        have hrq : bm_bf d r ^ 17 % bm_q d < bm_q d := Nat.mod_lt _ (by omega)
        refine lv_topl (fun t23 e_t23 => ?_)
        have e_t23 : t23 = lN (k * bm_bf d r ^ 17 % bm_q d) := by rw [e_t23]; rw [lN_mul, pk_lRem (bm_mul_lt hkq hrq (by omega)) (by omega) (by omega), ← Nat.mul_mod]
        subst e_t23
        refine lv_iload hx hb dM_blind_90 (lv_at hl 5 rfl) ?_
        have hm1 : k * bm_bf d r ^ 17 % bm_p d < bm_p d := Nat.mod_lt _ (by omega)
        have hm2 : k * bm_bf d r ^ 17 % bm_q d < bm_q d := Nat.mod_lt _ (by omega)
        refine bm_callE (va_runS (As := [.long (lN (k * bm_bf d r ^ 17 % bm_p d)), .long (lN (k * bm_bf d r ^ 17 % bm_q d)), .int (nI d)]) (rest := []) ⟨hx, hb, hml, hown, hts⟩ (bc_M_join l D ct base ad M sz d (k * bm_bf d r ^ 17 % bm_p d) (k * bm_bf d r ^ 17 % bm_q d) hd (by omega) (by omega)) (va_cwS 3 hts (bm_goodS bw_742 bw_743 bw_5 bw_744) rfl rfl rfl (by decide +kernel) (by rw [← hR]; exact ⟨Nat.le_of_ble_eq_true rfl, Nat.le_of_ble_eq_true rfl⟩)) (bm_preS hM hG hS hz) rfl rfl hl.1 rfl (lv_room (Nat.le_of_ble_eq_true rfl)) dM_blind_92 (by rw [← hR]; exact ⟨Nat.le_of_ble_eq_true rfl, Nat.le_of_ble_eq_true rfl⟩)) hS (fun H locs hz hM hS => ?_)
        exact bm_lret hQ hx hb hr hlk hM hS ⟨rfl, rfl, hz⟩ (Nat.le_refl _) (Nat.le_refl _) dM_blind_95
  · have b0 := bm_cmpn h32
    refine lv_lload hx hb dM_blind_35 (lv_at hl 0 rfl) ?_
    refine lv_lload hx hb dM_blind_37 (lv_at hl 1 rfl) ?_
    refine lv_lrem hx hb dM_blind_39 (bm_lN_ne (by omega) (by omega)) ?_
    refine lv_topl (fun t24 e_t24 => ?_)
    have e_t24 : t24 = lN ((r) % bm_q d) := by rw [e_t24]; rw [pk_lRem (by omega) (by omega) (by omega)]
    subst e_t24
    refine lv_lconst (v := 0) hx hb dM_blind_40 (by decide) ?_
    refine W.lcmp hx hb dM_blind_41 ?_
    refine lv_if_ne (tgt := 54) hx hb dM_blind_42 rfl (fun h42 => ?_) (fun h42 => ?_)
    · have c0 := bm_cmpn h42
      have hbf := bm_bf_0 b0 c0
      rw [hbf] at hl
      have hb9 := (bm_bf_ok d r).2.2
      have hl : lv_has ls 11 [(9, .long (lN (bm_bf d r))), (7, .long (lN (bm_q d))), (5, .long (lN (bm_p d))), (0, .long (lN k)), (2, .long seed), (4, .int (nI d))] := hl
      refine lv_lload_n hx hb dM_blind_54 rfl (lv_at hl 3 rfl) ?_
      refine lv_lload hx hb dM_blind_55 (lv_at hl 2 rfl) ?_
      refine lv_lrem hx hb dM_blind_57 (bm_lN_ne (by omega) (by omega)) ?_
      refine lv_topl (fun t25 e_t25 => ?_)
      have e_t25 : t25 = lN (k % bm_p d) := by rw [e_t25]; rw [pk_lRem (by omega) (by omega) (by omega)]
      subst e_t25
      refine lv_lload hx hb dM_blind_58 (lv_at hl 0 rfl) ?_
      refine lv_ldc2 hx hb hown (hts _ bw_738) dM_blind_60 ?_
      refine lv_lload hx hb dM_blind_63 (lv_at hl 2 rfl) ?_
      refine bm_callE (va_runS (As := [.long (lN (bm_bf d r)), .long 17, .long (lN (bm_p d))]) (rest := [.long (lN (k % bm_p d))]) ⟨hx, hb, hml, hown, hts⟩ (bc_M_power l D ct base ad M sz (bm_bf d r) 17 (bm_p d) (by omega) (by decide) (by omega) (by omega)) (va_cwS 3 hts (bm_goodS bw_739 bw_740 bw_5 bw_741) rfl rfl rfl (by decide +kernel) (by rw [← hR]; exact ⟨Nat.le_of_ble_eq_true rfl, Nat.le_of_ble_eq_true rfl⟩)) (bm_preS hM hG hS hz) rfl rfl hl.1 rfl (lv_room (Nat.le_of_ble_eq_true rfl)) dM_blind_65 (by rw [← hR]; exact ⟨Nat.le_of_ble_eq_true rfl, Nat.le_of_ble_eq_true rfl⟩)) hS (fun H locs hz hM hS => ?_)
      refine lv_lmul hx hb dM_blind_68 ?_
      refine lv_lload hx hb dM_blind_69 (lv_at hl 2 rfl) ?_
      refine lv_lrem hx hb dM_blind_71 (bm_lN_ne (by omega) (by omega)) ?_
      have hkp : k % bm_p d < bm_p d := Nat.mod_lt _ (by omega)
      have hrp : bm_bf d r ^ 17 % bm_p d < bm_p d := Nat.mod_lt _ (by omega)
      refine lv_topl (fun t26 e_t26 => ?_)
      have e_t26 : t26 = lN (k * bm_bf d r ^ 17 % bm_p d) := by rw [e_t26]; rw [lN_mul, pk_lRem (bm_mul_lt hkp hrp (by omega)) (by omega) (by omega), ← Nat.mul_mod]
      subst e_t26
      refine lv_lload_n hx hb dM_blind_72 rfl (lv_at hl 3 rfl) ?_
      refine lv_lload hx hb dM_blind_73 (lv_at hl 1 rfl) ?_
      refine lv_lrem hx hb dM_blind_75 (bm_lN_ne (by omega) (by omega)) ?_
      refine lv_topl (fun t27 e_t27 => ?_)
      have e_t27 : t27 = lN (k % bm_q d) := by rw [e_t27]; rw [pk_lRem (by omega) (by omega) (by omega)]
      subst e_t27
      refine lv_lload hx hb dM_blind_76 (lv_at hl 0 rfl) ?_
      refine lv_ldc2 hx hb hown (hts _ bw_738) dM_blind_78 ?_
      refine lv_lload hx hb dM_blind_81 (lv_at hl 1 rfl) ?_
      refine bm_callE (va_runS (As := [.long (lN (bm_bf d r)), .long 17, .long (lN (bm_q d))]) (rest := [.long (lN (k % bm_q d)), .long (lN (k * bm_bf d r ^ 17 % bm_p d))]) ⟨hx, hb, hml, hown, hts⟩ (bc_M_power l D ct base ad M sz (bm_bf d r) 17 (bm_q d) (by omega) (by decide) (by omega) (by omega)) (va_cwS 3 hts (bm_goodS bw_739 bw_740 bw_5 bw_741) rfl rfl rfl (by decide +kernel) (by rw [← hR]; exact ⟨Nat.le_of_ble_eq_true rfl, Nat.le_of_ble_eq_true rfl⟩)) (bm_preS hM hG hS hz) rfl rfl hl.1 rfl (lv_room (Nat.le_of_ble_eq_true rfl)) dM_blind_83 (by rw [← hR]; exact ⟨Nat.le_of_ble_eq_true rfl, Nat.le_of_ble_eq_true rfl⟩)) hS (fun H locs hz hM hS => ?_)
      refine lv_lmul hx hb dM_blind_86 ?_
      refine lv_lload hx hb dM_blind_87 (lv_at hl 1 rfl) ?_
      refine lv_lrem hx hb dM_blind_89 (bm_lN_ne (by omega) (by omega)) ?_
      have hkq : k % bm_q d < bm_q d := Nat.mod_lt _ (by omega)
      have hrq : bm_bf d r ^ 17 % bm_q d < bm_q d := Nat.mod_lt _ (by omega)
      refine lv_topl (fun t28 e_t28 => ?_)
      have e_t28 : t28 = lN (k * bm_bf d r ^ 17 % bm_q d) := by rw [e_t28]; rw [lN_mul, pk_lRem (bm_mul_lt hkq hrq (by omega)) (by omega) (by omega), ← Nat.mul_mod]
      subst e_t28
      refine lv_iload hx hb dM_blind_90 (lv_at hl 5 rfl) ?_
      have hm1 : k * bm_bf d r ^ 17 % bm_p d < bm_p d := Nat.mod_lt _ (by omega)
      have hm2 : k * bm_bf d r ^ 17 % bm_q d < bm_q d := Nat.mod_lt _ (by omega)
      refine bm_callE (va_runS (As := [.long (lN (k * bm_bf d r ^ 17 % bm_p d)), .long (lN (k * bm_bf d r ^ 17 % bm_q d)), .int (nI d)]) (rest := []) ⟨hx, hb, hml, hown, hts⟩ (bc_M_join l D ct base ad M sz d (k * bm_bf d r ^ 17 % bm_p d) (k * bm_bf d r ^ 17 % bm_q d) hd (by omega) (by omega)) (va_cwS 3 hts (bm_goodS bw_742 bw_743 bw_5 bw_744) rfl rfl rfl (by decide +kernel) (by rw [← hR]; exact ⟨Nat.le_of_ble_eq_true rfl, Nat.le_of_ble_eq_true rfl⟩)) (bm_preS hM hG hS hz) rfl rfl hl.1 rfl (lv_room (Nat.le_of_ble_eq_true rfl)) dM_blind_92 (by rw [← hR]; exact ⟨Nat.le_of_ble_eq_true rfl, Nat.le_of_ble_eq_true rfl⟩)) hS (fun H locs hz hM hS => ?_)
      exact bm_lret hQ hx hb hr hlk hM hS ⟨rfl, rfl, hz⟩ (Nat.le_refl _) (Nat.le_refl _) dM_blind_95
    · have a0 : (r) % bm_p d = 0 ∨ (r) % bm_q d = 0 := Or.inr (bm_cmp0 (bm_mod63 (by omega) (by omega)) h42)
      refine lv_lload hx hb dM_blind_45 (lv_at hl 0 rfl) ?_
      refine lv_lconst (v := 1) hx hb dM_blind_47 (by decide) ?_
      refine lv_ladd hx hb dM_blind_48 ?_
      refine lv_topl (fun t29 e_t29 => ?_)
      have e_t29 : t29 = lN (r + 1) := by rw [e_t29]; exact lN_1 _
      subst e_t29
      refine lv_lstore hx hb dM_blind_49 hl (by decide) rfl (fun ls hl => ?_)
      have hl : lv_has ls 11 [(9, .long (lN (r + 1))), (7, .long (lN (bm_q d))), (5, .long (lN (bm_p d))), (0, .long (lN k)), (2, .long seed), (4, .int (nI d))] := hl
      refine lv_goto (tgt := 25) hx hb dM_blind_51 rfl ?_
      refine lv_lload hx hb dM_blind_25 (lv_at hl 0 rfl) ?_
      refine lv_lload hx hb dM_blind_27 (lv_at hl 2 rfl) ?_
      refine lv_lrem hx hb dM_blind_29 (bm_lN_ne (by omega) (by omega)) ?_
      refine lv_topl (fun t30 e_t30 => ?_)
      have e_t30 : t30 = lN ((r + 1) % bm_p d) := by rw [e_t30]; rw [pk_lRem (by omega) (by omega) (by omega)]
      subst e_t30
      refine lv_lconst (v := 0) hx hb dM_blind_30 (by decide) ?_
      refine W.lcmp hx hb dM_blind_31 ?_
      refine lv_if_eq (tgt := 45) hx hb dM_blind_32 rfl (fun h32 => ?_) (fun h32 => ?_)
      · have a1 : (r + 1) % bm_p d = 0 ∨ (r + 1) % bm_q d = 0 := Or.inl (bm_cmp0 (bm_mod63 (by omega) (by omega)) h32)
        refine lv_lload hx hb dM_blind_45 (lv_at hl 0 rfl) ?_
        refine lv_lconst (v := 1) hx hb dM_blind_47 (by decide) ?_
        refine lv_ladd hx hb dM_blind_48 ?_
        refine lv_topl (fun t31 e_t31 => ?_)
        have e_t31 : t31 = lN (r + 1 + 1) := by rw [e_t31]; exact lN_1 _
        subst e_t31
        refine lv_lstore hx hb dM_blind_49 hl (by decide) rfl (fun ls hl => ?_)
        have hl : lv_has ls 11 [(9, .long (lN (r + 1 + 1))), (7, .long (lN (bm_q d))), (5, .long (lN (bm_p d))), (0, .long (lN k)), (2, .long seed), (4, .int (nI d))] := hl
        refine lv_goto (tgt := 25) hx hb dM_blind_51 rfl ?_
        refine lv_lload hx hb dM_blind_25 (lv_at hl 0 rfl) ?_
        refine lv_lload hx hb dM_blind_27 (lv_at hl 2 rfl) ?_
        refine lv_lrem hx hb dM_blind_29 (bm_lN_ne (by omega) (by omega)) ?_
        refine lv_topl (fun t32 e_t32 => ?_)
        have e_t32 : t32 = lN ((r + 1 + 1) % bm_p d) := by rw [e_t32]; rw [pk_lRem (by omega) (by omega) (by omega)]
        subst e_t32
        refine lv_lconst (v := 0) hx hb dM_blind_30 (by decide) ?_
        refine W.lcmp hx hb dM_blind_31 ?_
        refine lv_if_eq (tgt := 45) hx hb dM_blind_32 rfl (fun h32 => absurd (bm_cmp0 (a := (r + 1 + 1) % bm_p d) (bm_mod63 (by omega) (by omega)) h32) (by have h9 := (bm_bf_ok d r).1; rw [← bm_bf_2 a0 a1] at h9; exact h9)) (fun h32 => ?_)
        refine lv_lload hx hb dM_blind_35 (lv_at hl 0 rfl) ?_
        refine lv_lload hx hb dM_blind_37 (lv_at hl 1 rfl) ?_
        refine lv_lrem hx hb dM_blind_39 (bm_lN_ne (by omega) (by omega)) ?_
        refine lv_topl (fun t33 e_t33 => ?_)
        have e_t33 : t33 = lN ((r + 1 + 1) % bm_q d) := by rw [e_t33]; rw [pk_lRem (by omega) (by omega) (by omega)]
        subst e_t33
        refine lv_lconst (v := 0) hx hb dM_blind_40 (by decide) ?_
        refine W.lcmp hx hb dM_blind_41 ?_
        refine lv_if_ne (tgt := 54) hx hb dM_blind_42 rfl (fun h42 => ?_) (fun h42 => absurd (bm_cmp0 (a := (r + 1 + 1) % bm_q d) (bm_mod63 (by omega) (by omega)) h42) (by have h9 := (bm_bf_ok d r).2.1; rw [← bm_bf_2 a0 a1] at h9; exact h9))
        have hbf := bm_bf_2 a0 a1
        rw [hbf] at hl
        have hb9 := (bm_bf_ok d r).2.2
        have hl : lv_has ls 11 [(9, .long (lN (bm_bf d r))), (7, .long (lN (bm_q d))), (5, .long (lN (bm_p d))), (0, .long (lN k)), (2, .long seed), (4, .int (nI d))] := hl
        refine lv_lload_n hx hb dM_blind_54 rfl (lv_at hl 3 rfl) ?_
        refine lv_lload hx hb dM_blind_55 (lv_at hl 2 rfl) ?_
        refine lv_lrem hx hb dM_blind_57 (bm_lN_ne (by omega) (by omega)) ?_
        refine lv_topl (fun t34 e_t34 => ?_)
        have e_t34 : t34 = lN (k % bm_p d) := by rw [e_t34]; rw [pk_lRem (by omega) (by omega) (by omega)]
        subst e_t34
        refine lv_lload hx hb dM_blind_58 (lv_at hl 0 rfl) ?_
        refine lv_ldc2 hx hb hown (hts _ bw_738) dM_blind_60 ?_
        refine lv_lload hx hb dM_blind_63 (lv_at hl 2 rfl) ?_
        refine bm_callE (va_runS (As := [.long (lN (bm_bf d r)), .long 17, .long (lN (bm_p d))]) (rest := [.long (lN (k % bm_p d))]) ⟨hx, hb, hml, hown, hts⟩ (bc_M_power l D ct base ad M sz (bm_bf d r) 17 (bm_p d) (by omega) (by decide) (by omega) (by omega)) (va_cwS 3 hts (bm_goodS bw_739 bw_740 bw_5 bw_741) rfl rfl rfl (by decide +kernel) (by rw [← hR]; exact ⟨Nat.le_of_ble_eq_true rfl, Nat.le_of_ble_eq_true rfl⟩)) (bm_preS hM hG hS hz) rfl rfl hl.1 rfl (lv_room (Nat.le_of_ble_eq_true rfl)) dM_blind_65 (by rw [← hR]; exact ⟨Nat.le_of_ble_eq_true rfl, Nat.le_of_ble_eq_true rfl⟩)) hS (fun H locs hz hM hS => ?_)
        refine lv_lmul hx hb dM_blind_68 ?_
        refine lv_lload hx hb dM_blind_69 (lv_at hl 2 rfl) ?_
        refine lv_lrem hx hb dM_blind_71 (bm_lN_ne (by omega) (by omega)) ?_
        have hkp : k % bm_p d < bm_p d := Nat.mod_lt _ (by omega)
        have hrp : bm_bf d r ^ 17 % bm_p d < bm_p d := Nat.mod_lt _ (by omega)
        refine lv_topl (fun t35 e_t35 => ?_)
        have e_t35 : t35 = lN (k * bm_bf d r ^ 17 % bm_p d) := by rw [e_t35]; rw [lN_mul, pk_lRem (bm_mul_lt hkp hrp (by omega)) (by omega) (by omega), ← Nat.mul_mod]
        subst e_t35
        refine lv_lload_n hx hb dM_blind_72 rfl (lv_at hl 3 rfl) ?_
        refine lv_lload hx hb dM_blind_73 (lv_at hl 1 rfl) ?_
        refine lv_lrem hx hb dM_blind_75 (bm_lN_ne (by omega) (by omega)) ?_
        refine lv_topl (fun t36 e_t36 => ?_)
        have e_t36 : t36 = lN (k % bm_q d) := by rw [e_t36]; rw [pk_lRem (by omega) (by omega) (by omega)]
        subst e_t36
        refine lv_lload hx hb dM_blind_76 (lv_at hl 0 rfl) ?_
        refine lv_ldc2 hx hb hown (hts _ bw_738) dM_blind_78 ?_
        refine lv_lload hx hb dM_blind_81 (lv_at hl 1 rfl) ?_
        refine bm_callE (va_runS (As := [.long (lN (bm_bf d r)), .long 17, .long (lN (bm_q d))]) (rest := [.long (lN (k % bm_q d)), .long (lN (k * bm_bf d r ^ 17 % bm_p d))]) ⟨hx, hb, hml, hown, hts⟩ (bc_M_power l D ct base ad M sz (bm_bf d r) 17 (bm_q d) (by omega) (by decide) (by omega) (by omega)) (va_cwS 3 hts (bm_goodS bw_739 bw_740 bw_5 bw_741) rfl rfl rfl (by decide +kernel) (by rw [← hR]; exact ⟨Nat.le_of_ble_eq_true rfl, Nat.le_of_ble_eq_true rfl⟩)) (bm_preS hM hG hS hz) rfl rfl hl.1 rfl (lv_room (Nat.le_of_ble_eq_true rfl)) dM_blind_83 (by rw [← hR]; exact ⟨Nat.le_of_ble_eq_true rfl, Nat.le_of_ble_eq_true rfl⟩)) hS (fun H locs hz hM hS => ?_)
        refine lv_lmul hx hb dM_blind_86 ?_
        refine lv_lload hx hb dM_blind_87 (lv_at hl 1 rfl) ?_
        refine lv_lrem hx hb dM_blind_89 (bm_lN_ne (by omega) (by omega)) ?_
        have hkq : k % bm_q d < bm_q d := Nat.mod_lt _ (by omega)
        have hrq : bm_bf d r ^ 17 % bm_q d < bm_q d := Nat.mod_lt _ (by omega)
        refine lv_topl (fun t37 e_t37 => ?_)
        have e_t37 : t37 = lN (k * bm_bf d r ^ 17 % bm_q d) := by rw [e_t37]; rw [lN_mul, pk_lRem (bm_mul_lt hkq hrq (by omega)) (by omega) (by omega), ← Nat.mul_mod]
        subst e_t37
        refine lv_iload hx hb dM_blind_90 (lv_at hl 5 rfl) ?_
        have hm1 : k * bm_bf d r ^ 17 % bm_p d < bm_p d := Nat.mod_lt _ (by omega)
        have hm2 : k * bm_bf d r ^ 17 % bm_q d < bm_q d := Nat.mod_lt _ (by omega)
        refine bm_callE (va_runS (As := [.long (lN (k * bm_bf d r ^ 17 % bm_p d)), .long (lN (k * bm_bf d r ^ 17 % bm_q d)), .int (nI d)]) (rest := []) ⟨hx, hb, hml, hown, hts⟩ (bc_M_join l D ct base ad M sz d (k * bm_bf d r ^ 17 % bm_p d) (k * bm_bf d r ^ 17 % bm_q d) hd (by omega) (by omega)) (va_cwS 3 hts (bm_goodS bw_742 bw_743 bw_5 bw_744) rfl rfl rfl (by decide +kernel) (by rw [← hR]; exact ⟨Nat.le_of_ble_eq_true rfl, Nat.le_of_ble_eq_true rfl⟩)) (bm_preS hM hG hS hz) rfl rfl hl.1 rfl (lv_room (Nat.le_of_ble_eq_true rfl)) dM_blind_92 (by rw [← hR]; exact ⟨Nat.le_of_ble_eq_true rfl, Nat.le_of_ble_eq_true rfl⟩)) hS (fun H locs hz hM hS => ?_)
        exact bm_lret hQ hx hb hr hlk hM hS ⟨rfl, rfl, hz⟩ (Nat.le_refl _) (Nat.le_refl _) dM_blind_95
      · have b1 := bm_cmpn h32
        refine lv_lload hx hb dM_blind_35 (lv_at hl 0 rfl) ?_
        refine lv_lload hx hb dM_blind_37 (lv_at hl 1 rfl) ?_
        refine lv_lrem hx hb dM_blind_39 (bm_lN_ne (by omega) (by omega)) ?_
        refine lv_topl (fun t38 e_t38 => ?_)
        have e_t38 : t38 = lN ((r + 1) % bm_q d) := by rw [e_t38]; rw [pk_lRem (by omega) (by omega) (by omega)]
        subst e_t38
        refine lv_lconst (v := 0) hx hb dM_blind_40 (by decide) ?_
        refine W.lcmp hx hb dM_blind_41 ?_
        refine lv_if_ne (tgt := 54) hx hb dM_blind_42 rfl (fun h42 => ?_) (fun h42 => ?_)
        · have c1 := bm_cmpn h42
          have hbf := bm_bf_1 a0 b1 c1
          rw [hbf] at hl
          have hb9 := (bm_bf_ok d r).2.2
          have hl : lv_has ls 11 [(9, .long (lN (bm_bf d r))), (7, .long (lN (bm_q d))), (5, .long (lN (bm_p d))), (0, .long (lN k)), (2, .long seed), (4, .int (nI d))] := hl
          refine lv_lload_n hx hb dM_blind_54 rfl (lv_at hl 3 rfl) ?_
          refine lv_lload hx hb dM_blind_55 (lv_at hl 2 rfl) ?_
          refine lv_lrem hx hb dM_blind_57 (bm_lN_ne (by omega) (by omega)) ?_
          refine lv_topl (fun t39 e_t39 => ?_)
          have e_t39 : t39 = lN (k % bm_p d) := by rw [e_t39]; rw [pk_lRem (by omega) (by omega) (by omega)]
          subst e_t39
          refine lv_lload hx hb dM_blind_58 (lv_at hl 0 rfl) ?_
          refine lv_ldc2 hx hb hown (hts _ bw_738) dM_blind_60 ?_
          refine lv_lload hx hb dM_blind_63 (lv_at hl 2 rfl) ?_
          refine bm_callE (va_runS (As := [.long (lN (bm_bf d r)), .long 17, .long (lN (bm_p d))]) (rest := [.long (lN (k % bm_p d))]) ⟨hx, hb, hml, hown, hts⟩ (bc_M_power l D ct base ad M sz (bm_bf d r) 17 (bm_p d) (by omega) (by decide) (by omega) (by omega)) (va_cwS 3 hts (bm_goodS bw_739 bw_740 bw_5 bw_741) rfl rfl rfl (by decide +kernel) (by rw [← hR]; exact ⟨Nat.le_of_ble_eq_true rfl, Nat.le_of_ble_eq_true rfl⟩)) (bm_preS hM hG hS hz) rfl rfl hl.1 rfl (lv_room (Nat.le_of_ble_eq_true rfl)) dM_blind_65 (by rw [← hR]; exact ⟨Nat.le_of_ble_eq_true rfl, Nat.le_of_ble_eq_true rfl⟩)) hS (fun H locs hz hM hS => ?_)
          refine lv_lmul hx hb dM_blind_68 ?_
          refine lv_lload hx hb dM_blind_69 (lv_at hl 2 rfl) ?_
          refine lv_lrem hx hb dM_blind_71 (bm_lN_ne (by omega) (by omega)) ?_
          have hkp : k % bm_p d < bm_p d := Nat.mod_lt _ (by omega)
          have hrp : bm_bf d r ^ 17 % bm_p d < bm_p d := Nat.mod_lt _ (by omega)
          refine lv_topl (fun t40 e_t40 => ?_)
          have e_t40 : t40 = lN (k * bm_bf d r ^ 17 % bm_p d) := by rw [e_t40]; rw [lN_mul, pk_lRem (bm_mul_lt hkp hrp (by omega)) (by omega) (by omega), ← Nat.mul_mod]
          subst e_t40
          refine lv_lload_n hx hb dM_blind_72 rfl (lv_at hl 3 rfl) ?_
          refine lv_lload hx hb dM_blind_73 (lv_at hl 1 rfl) ?_
          refine lv_lrem hx hb dM_blind_75 (bm_lN_ne (by omega) (by omega)) ?_
          refine lv_topl (fun t41 e_t41 => ?_)
          have e_t41 : t41 = lN (k % bm_q d) := by rw [e_t41]; rw [pk_lRem (by omega) (by omega) (by omega)]
          subst e_t41
          refine lv_lload hx hb dM_blind_76 (lv_at hl 0 rfl) ?_
          refine lv_ldc2 hx hb hown (hts _ bw_738) dM_blind_78 ?_
          refine lv_lload hx hb dM_blind_81 (lv_at hl 1 rfl) ?_
          refine bm_callE (va_runS (As := [.long (lN (bm_bf d r)), .long 17, .long (lN (bm_q d))]) (rest := [.long (lN (k % bm_q d)), .long (lN (k * bm_bf d r ^ 17 % bm_p d))]) ⟨hx, hb, hml, hown, hts⟩ (bc_M_power l D ct base ad M sz (bm_bf d r) 17 (bm_q d) (by omega) (by decide) (by omega) (by omega)) (va_cwS 3 hts (bm_goodS bw_739 bw_740 bw_5 bw_741) rfl rfl rfl (by decide +kernel) (by rw [← hR]; exact ⟨Nat.le_of_ble_eq_true rfl, Nat.le_of_ble_eq_true rfl⟩)) (bm_preS hM hG hS hz) rfl rfl hl.1 rfl (lv_room (Nat.le_of_ble_eq_true rfl)) dM_blind_83 (by rw [← hR]; exact ⟨Nat.le_of_ble_eq_true rfl, Nat.le_of_ble_eq_true rfl⟩)) hS (fun H locs hz hM hS => ?_)
          refine lv_lmul hx hb dM_blind_86 ?_
          refine lv_lload hx hb dM_blind_87 (lv_at hl 1 rfl) ?_
          refine lv_lrem hx hb dM_blind_89 (bm_lN_ne (by omega) (by omega)) ?_
          have hkq : k % bm_q d < bm_q d := Nat.mod_lt _ (by omega)
          have hrq : bm_bf d r ^ 17 % bm_q d < bm_q d := Nat.mod_lt _ (by omega)
          refine lv_topl (fun t42 e_t42 => ?_)
          have e_t42 : t42 = lN (k * bm_bf d r ^ 17 % bm_q d) := by rw [e_t42]; rw [lN_mul, pk_lRem (bm_mul_lt hkq hrq (by omega)) (by omega) (by omega), ← Nat.mul_mod]
          subst e_t42
          refine lv_iload hx hb dM_blind_90 (lv_at hl 5 rfl) ?_
          have hm1 : k * bm_bf d r ^ 17 % bm_p d < bm_p d := Nat.mod_lt _ (by omega)
          have hm2 : k * bm_bf d r ^ 17 % bm_q d < bm_q d := Nat.mod_lt _ (by omega)
          refine bm_callE (va_runS (As := [.long (lN (k * bm_bf d r ^ 17 % bm_p d)), .long (lN (k * bm_bf d r ^ 17 % bm_q d)), .int (nI d)]) (rest := []) ⟨hx, hb, hml, hown, hts⟩ (bc_M_join l D ct base ad M sz d (k * bm_bf d r ^ 17 % bm_p d) (k * bm_bf d r ^ 17 % bm_q d) hd (by omega) (by omega)) (va_cwS 3 hts (bm_goodS bw_742 bw_743 bw_5 bw_744) rfl rfl rfl (by decide +kernel) (by rw [← hR]; exact ⟨Nat.le_of_ble_eq_true rfl, Nat.le_of_ble_eq_true rfl⟩)) (bm_preS hM hG hS hz) rfl rfl hl.1 rfl (lv_room (Nat.le_of_ble_eq_true rfl)) dM_blind_92 (by rw [← hR]; exact ⟨Nat.le_of_ble_eq_true rfl, Nat.le_of_ble_eq_true rfl⟩)) hS (fun H locs hz hM hS => ?_)
          exact bm_lret hQ hx hb hr hlk hM hS ⟨rfl, rfl, hz⟩ (Nat.le_refl _) (Nat.le_refl _) dM_blind_95
        · have a1 : (r + 1) % bm_p d = 0 ∨ (r + 1) % bm_q d = 0 := Or.inr (bm_cmp0 (bm_mod63 (by omega) (by omega)) h42)
          refine lv_lload hx hb dM_blind_45 (lv_at hl 0 rfl) ?_
          refine lv_lconst (v := 1) hx hb dM_blind_47 (by decide) ?_
          refine lv_ladd hx hb dM_blind_48 ?_
          refine lv_topl (fun t43 e_t43 => ?_)
          have e_t43 : t43 = lN (r + 1 + 1) := by rw [e_t43]; exact lN_1 _
          subst e_t43
          refine lv_lstore hx hb dM_blind_49 hl (by decide) rfl (fun ls hl => ?_)
          have hl : lv_has ls 11 [(9, .long (lN (r + 1 + 1))), (7, .long (lN (bm_q d))), (5, .long (lN (bm_p d))), (0, .long (lN k)), (2, .long seed), (4, .int (nI d))] := hl
          refine lv_goto (tgt := 25) hx hb dM_blind_51 rfl ?_
          refine lv_lload hx hb dM_blind_25 (lv_at hl 0 rfl) ?_
          refine lv_lload hx hb dM_blind_27 (lv_at hl 2 rfl) ?_
          refine lv_lrem hx hb dM_blind_29 (bm_lN_ne (by omega) (by omega)) ?_
          refine lv_topl (fun t44 e_t44 => ?_)
          have e_t44 : t44 = lN ((r + 1 + 1) % bm_p d) := by rw [e_t44]; rw [pk_lRem (by omega) (by omega) (by omega)]
          subst e_t44
          refine lv_lconst (v := 0) hx hb dM_blind_30 (by decide) ?_
          refine W.lcmp hx hb dM_blind_31 ?_
          refine lv_if_eq (tgt := 45) hx hb dM_blind_32 rfl (fun h32 => absurd (bm_cmp0 (a := (r + 1 + 1) % bm_p d) (bm_mod63 (by omega) (by omega)) h32) (by have h9 := (bm_bf_ok d r).1; rw [← bm_bf_2 a0 a1] at h9; exact h9)) (fun h32 => ?_)
          refine lv_lload hx hb dM_blind_35 (lv_at hl 0 rfl) ?_
          refine lv_lload hx hb dM_blind_37 (lv_at hl 1 rfl) ?_
          refine lv_lrem hx hb dM_blind_39 (bm_lN_ne (by omega) (by omega)) ?_
          refine lv_topl (fun t45 e_t45 => ?_)
          have e_t45 : t45 = lN ((r + 1 + 1) % bm_q d) := by rw [e_t45]; rw [pk_lRem (by omega) (by omega) (by omega)]
          subst e_t45
          refine lv_lconst (v := 0) hx hb dM_blind_40 (by decide) ?_
          refine W.lcmp hx hb dM_blind_41 ?_
          refine lv_if_ne (tgt := 54) hx hb dM_blind_42 rfl (fun h42 => ?_) (fun h42 => absurd (bm_cmp0 (a := (r + 1 + 1) % bm_q d) (bm_mod63 (by omega) (by omega)) h42) (by have h9 := (bm_bf_ok d r).2.1; rw [← bm_bf_2 a0 a1] at h9; exact h9))
          have hbf := bm_bf_2 a0 a1
          rw [hbf] at hl
          have hb9 := (bm_bf_ok d r).2.2
          have hl : lv_has ls 11 [(9, .long (lN (bm_bf d r))), (7, .long (lN (bm_q d))), (5, .long (lN (bm_p d))), (0, .long (lN k)), (2, .long seed), (4, .int (nI d))] := hl
          refine lv_lload_n hx hb dM_blind_54 rfl (lv_at hl 3 rfl) ?_
          refine lv_lload hx hb dM_blind_55 (lv_at hl 2 rfl) ?_
          refine lv_lrem hx hb dM_blind_57 (bm_lN_ne (by omega) (by omega)) ?_
          refine lv_topl (fun t46 e_t46 => ?_)
          have e_t46 : t46 = lN (k % bm_p d) := by rw [e_t46]; rw [pk_lRem (by omega) (by omega) (by omega)]
          subst e_t46
          refine lv_lload hx hb dM_blind_58 (lv_at hl 0 rfl) ?_
          refine lv_ldc2 hx hb hown (hts _ bw_738) dM_blind_60 ?_
          refine lv_lload hx hb dM_blind_63 (lv_at hl 2 rfl) ?_
          refine bm_callE (va_runS (As := [.long (lN (bm_bf d r)), .long 17, .long (lN (bm_p d))]) (rest := [.long (lN (k % bm_p d))]) ⟨hx, hb, hml, hown, hts⟩ (bc_M_power l D ct base ad M sz (bm_bf d r) 17 (bm_p d) (by omega) (by decide) (by omega) (by omega)) (va_cwS 3 hts (bm_goodS bw_739 bw_740 bw_5 bw_741) rfl rfl rfl (by decide +kernel) (by rw [← hR]; exact ⟨Nat.le_of_ble_eq_true rfl, Nat.le_of_ble_eq_true rfl⟩)) (bm_preS hM hG hS hz) rfl rfl hl.1 rfl (lv_room (Nat.le_of_ble_eq_true rfl)) dM_blind_65 (by rw [← hR]; exact ⟨Nat.le_of_ble_eq_true rfl, Nat.le_of_ble_eq_true rfl⟩)) hS (fun H locs hz hM hS => ?_)
          refine lv_lmul hx hb dM_blind_68 ?_
          refine lv_lload hx hb dM_blind_69 (lv_at hl 2 rfl) ?_
          refine lv_lrem hx hb dM_blind_71 (bm_lN_ne (by omega) (by omega)) ?_
          have hkp : k % bm_p d < bm_p d := Nat.mod_lt _ (by omega)
          have hrp : bm_bf d r ^ 17 % bm_p d < bm_p d := Nat.mod_lt _ (by omega)
          refine lv_topl (fun t47 e_t47 => ?_)
          have e_t47 : t47 = lN (k * bm_bf d r ^ 17 % bm_p d) := by rw [e_t47]; rw [lN_mul, pk_lRem (bm_mul_lt hkp hrp (by omega)) (by omega) (by omega), ← Nat.mul_mod]
          subst e_t47
          refine lv_lload_n hx hb dM_blind_72 rfl (lv_at hl 3 rfl) ?_
          refine lv_lload hx hb dM_blind_73 (lv_at hl 1 rfl) ?_
          refine lv_lrem hx hb dM_blind_75 (bm_lN_ne (by omega) (by omega)) ?_
          refine lv_topl (fun t48 e_t48 => ?_)
          have e_t48 : t48 = lN (k % bm_q d) := by rw [e_t48]; rw [pk_lRem (by omega) (by omega) (by omega)]
          subst e_t48
          refine lv_lload hx hb dM_blind_76 (lv_at hl 0 rfl) ?_
          refine lv_ldc2 hx hb hown (hts _ bw_738) dM_blind_78 ?_
          refine lv_lload hx hb dM_blind_81 (lv_at hl 1 rfl) ?_
          refine bm_callE (va_runS (As := [.long (lN (bm_bf d r)), .long 17, .long (lN (bm_q d))]) (rest := [.long (lN (k % bm_q d)), .long (lN (k * bm_bf d r ^ 17 % bm_p d))]) ⟨hx, hb, hml, hown, hts⟩ (bc_M_power l D ct base ad M sz (bm_bf d r) 17 (bm_q d) (by omega) (by decide) (by omega) (by omega)) (va_cwS 3 hts (bm_goodS bw_739 bw_740 bw_5 bw_741) rfl rfl rfl (by decide +kernel) (by rw [← hR]; exact ⟨Nat.le_of_ble_eq_true rfl, Nat.le_of_ble_eq_true rfl⟩)) (bm_preS hM hG hS hz) rfl rfl hl.1 rfl (lv_room (Nat.le_of_ble_eq_true rfl)) dM_blind_83 (by rw [← hR]; exact ⟨Nat.le_of_ble_eq_true rfl, Nat.le_of_ble_eq_true rfl⟩)) hS (fun H locs hz hM hS => ?_)
          refine lv_lmul hx hb dM_blind_86 ?_
          refine lv_lload hx hb dM_blind_87 (lv_at hl 1 rfl) ?_
          refine lv_lrem hx hb dM_blind_89 (bm_lN_ne (by omega) (by omega)) ?_
          have hkq : k % bm_q d < bm_q d := Nat.mod_lt _ (by omega)
          have hrq : bm_bf d r ^ 17 % bm_q d < bm_q d := Nat.mod_lt _ (by omega)
          refine lv_topl (fun t49 e_t49 => ?_)
          have e_t49 : t49 = lN (k * bm_bf d r ^ 17 % bm_q d) := by rw [e_t49]; rw [lN_mul, pk_lRem (bm_mul_lt hkq hrq (by omega)) (by omega) (by omega), ← Nat.mul_mod]
          subst e_t49
          refine lv_iload hx hb dM_blind_90 (lv_at hl 5 rfl) ?_
          have hm1 : k * bm_bf d r ^ 17 % bm_p d < bm_p d := Nat.mod_lt _ (by omega)
          have hm2 : k * bm_bf d r ^ 17 % bm_q d < bm_q d := Nat.mod_lt _ (by omega)
          refine bm_callE (va_runS (As := [.long (lN (k * bm_bf d r ^ 17 % bm_p d)), .long (lN (k * bm_bf d r ^ 17 % bm_q d)), .int (nI d)]) (rest := []) ⟨hx, hb, hml, hown, hts⟩ (bc_M_join l D ct base ad M sz d (k * bm_bf d r ^ 17 % bm_p d) (k * bm_bf d r ^ 17 % bm_q d) hd (by omega) (by omega)) (va_cwS 3 hts (bm_goodS bw_742 bw_743 bw_5 bw_744) rfl rfl rfl (by decide +kernel) (by rw [← hR]; exact ⟨Nat.le_of_ble_eq_true rfl, Nat.le_of_ble_eq_true rfl⟩)) (bm_preS hM hG hS hz) rfl rfl hl.1 rfl (lv_room (Nat.le_of_ble_eq_true rfl)) dM_blind_92 (by rw [← hR]; exact ⟨Nat.le_of_ble_eq_true rfl, Nat.le_of_ble_eq_true rfl⟩)) hS (fun H locs hz hM hS => ?_)
          exact bm_lret hQ hx hb hr hlk hM hS ⟨rfl, rfl, hz⟩ (Nat.le_refl _) (Nat.le_refl _) dM_blind_95
end
section
/-- the reference at m: its scalars and its rows -/
def bm_MD (ct : Nat → ClassId) (m : Nat) (th : Int32) (tr : Int32) (bl : Int64) (np : Int32) (nd : Int32) (f1 : Nat → Int32) (f2 : Nat → Int32) (f3 : Nat → Int32) (f4 : Nat → Int32) (g5 : Nat → Int64) (g6 : Nat → Int64) (f7 : Nat → Int32) (g8 : Nat → Int64) (g9 : Nat → Int64) (g10 : Nat → Int64) (g11 : Nat → Int64) (g12 : Nat → Int64) (g13 : Nat → Int64) (g14 : Nat → Int64) (g15 : Nat → Int64) (f16 : Nat → Int32) (g17 : Nat → Int64) (M : bm_Map) : Prop :=
  M (m) = some (.inr (7, [.int th, .ref (m + 1), .ref (m + 2), .int tr, .long bl, .ref (m + 3), .ref (m + 4), .ref (m + 5), .ref (m + 6), .ref (m + 7), .ref (m + 8), .int np, .ref (m + 9), .int nd, .ref (m + 10), .ref (m + 11), .ref (m + 12), .ref (m + 13), .ref (m + 14), .ref (m + 15), .ref (m + 16), .ref (m + 17)])) ∧ M (m + 1) = some (.inl (ct 0, 4, .inl f1)) ∧ M (m + 2) = some (.inl (ct 0, 4, .inl f2)) ∧ M (m + 3) = some (.inl (ct 0, 4, .inl f3)) ∧ M (m + 4) = some (.inl (ct 0, 32, .inl f4)) ∧ M (m + 5) = some (.inl (ct 1, 32, .inr (.inl g5))) ∧ M (m + 6) = some (.inl (ct 1, 32, .inr (.inl g6))) ∧ M (m + 7) = some (.inl (ct 2, 32, .inl f7)) ∧ M (m + 8) = some (.inl (ct 1, 512, .inr (.inl g8))) ∧ M (m + 9) = some (.inl (ct 1, 320, .inr (.inl g9))) ∧ M (m + 10) = some (.inl (ct 1, 5200, .inr (.inl g10))) ∧ M (m + 11) = some (.inl (ct 1, 6, .inr (.inl g11))) ∧ M (m + 12) = some (.inl (ct 1, 6, .inr (.inl g12))) ∧ M (m + 13) = some (.inl (ct 1, 6, .inr (.inl g13))) ∧ M (m + 14) = some (.inl (ct 1, 6, .inr (.inl g14))) ∧ M (m + 15) = some (.inl (ct 1, 6, .inr (.inl g15))) ∧ M (m + 16) = some (.inl (ct 2, 6, .inl f16)) ∧ M (m + 17) = some (.inl (ct 1, 4, .inr (.inl g17)))
theorem bm_MD.c0 {ct : Nat → ClassId} {m : Nat} {th : Int32} {tr : Int32} {bl : Int64} {np : Int32} {nd : Int32} {f1 : Nat → Int32} {f2 : Nat → Int32} {f3 : Nat → Int32} {f4 : Nat → Int32} {g5 : Nat → Int64} {g6 : Nat → Int64} {f7 : Nat → Int32} {g8 : Nat → Int64} {g9 : Nat → Int64} {g10 : Nat → Int64} {g11 : Nat → Int64} {g12 : Nat → Int64} {g13 : Nat → Int64} {g14 : Nat → Int64} {g15 : Nat → Int64} {f16 : Nat → Int32} {g17 : Nat → Int64} {M : bm_Map} (h : bm_MD ct m th tr bl np nd f1 f2 f3 f4 g5 g6 f7 g8 g9 g10 g11 g12 g13 g14 g15 f16 g17 M) : M (m) = some (.inr (7, [.int th, .ref (m + 1), .ref (m + 2), .int tr, .long bl, .ref (m + 3), .ref (m + 4), .ref (m + 5), .ref (m + 6), .ref (m + 7), .ref (m + 8), .int np, .ref (m + 9), .int nd, .ref (m + 10), .ref (m + 11), .ref (m + 12), .ref (m + 13), .ref (m + 14), .ref (m + 15), .ref (m + 16), .ref (m + 17)])) := h.1
theorem bm_MD.c1 {ct : Nat → ClassId} {m : Nat} {th : Int32} {tr : Int32} {bl : Int64} {np : Int32} {nd : Int32} {f1 : Nat → Int32} {f2 : Nat → Int32} {f3 : Nat → Int32} {f4 : Nat → Int32} {g5 : Nat → Int64} {g6 : Nat → Int64} {f7 : Nat → Int32} {g8 : Nat → Int64} {g9 : Nat → Int64} {g10 : Nat → Int64} {g11 : Nat → Int64} {g12 : Nat → Int64} {g13 : Nat → Int64} {g14 : Nat → Int64} {g15 : Nat → Int64} {f16 : Nat → Int32} {g17 : Nat → Int64} {M : bm_Map} (h : bm_MD ct m th tr bl np nd f1 f2 f3 f4 g5 g6 f7 g8 g9 g10 g11 g12 g13 g14 g15 f16 g17 M) : M (m + 1) = some (.inl (ct 0, 4, .inl f1)) := h.2.1
theorem bm_MD.c2 {ct : Nat → ClassId} {m : Nat} {th : Int32} {tr : Int32} {bl : Int64} {np : Int32} {nd : Int32} {f1 : Nat → Int32} {f2 : Nat → Int32} {f3 : Nat → Int32} {f4 : Nat → Int32} {g5 : Nat → Int64} {g6 : Nat → Int64} {f7 : Nat → Int32} {g8 : Nat → Int64} {g9 : Nat → Int64} {g10 : Nat → Int64} {g11 : Nat → Int64} {g12 : Nat → Int64} {g13 : Nat → Int64} {g14 : Nat → Int64} {g15 : Nat → Int64} {f16 : Nat → Int32} {g17 : Nat → Int64} {M : bm_Map} (h : bm_MD ct m th tr bl np nd f1 f2 f3 f4 g5 g6 f7 g8 g9 g10 g11 g12 g13 g14 g15 f16 g17 M) : M (m + 2) = some (.inl (ct 0, 4, .inl f2)) := h.2.2.1
theorem bm_MD.c3 {ct : Nat → ClassId} {m : Nat} {th : Int32} {tr : Int32} {bl : Int64} {np : Int32} {nd : Int32} {f1 : Nat → Int32} {f2 : Nat → Int32} {f3 : Nat → Int32} {f4 : Nat → Int32} {g5 : Nat → Int64} {g6 : Nat → Int64} {f7 : Nat → Int32} {g8 : Nat → Int64} {g9 : Nat → Int64} {g10 : Nat → Int64} {g11 : Nat → Int64} {g12 : Nat → Int64} {g13 : Nat → Int64} {g14 : Nat → Int64} {g15 : Nat → Int64} {f16 : Nat → Int32} {g17 : Nat → Int64} {M : bm_Map} (h : bm_MD ct m th tr bl np nd f1 f2 f3 f4 g5 g6 f7 g8 g9 g10 g11 g12 g13 g14 g15 f16 g17 M) : M (m + 3) = some (.inl (ct 0, 4, .inl f3)) := h.2.2.2.1
theorem bm_MD.c4 {ct : Nat → ClassId} {m : Nat} {th : Int32} {tr : Int32} {bl : Int64} {np : Int32} {nd : Int32} {f1 : Nat → Int32} {f2 : Nat → Int32} {f3 : Nat → Int32} {f4 : Nat → Int32} {g5 : Nat → Int64} {g6 : Nat → Int64} {f7 : Nat → Int32} {g8 : Nat → Int64} {g9 : Nat → Int64} {g10 : Nat → Int64} {g11 : Nat → Int64} {g12 : Nat → Int64} {g13 : Nat → Int64} {g14 : Nat → Int64} {g15 : Nat → Int64} {f16 : Nat → Int32} {g17 : Nat → Int64} {M : bm_Map} (h : bm_MD ct m th tr bl np nd f1 f2 f3 f4 g5 g6 f7 g8 g9 g10 g11 g12 g13 g14 g15 f16 g17 M) : M (m + 4) = some (.inl (ct 0, 32, .inl f4)) := h.2.2.2.2.1
theorem bm_MD.c5 {ct : Nat → ClassId} {m : Nat} {th : Int32} {tr : Int32} {bl : Int64} {np : Int32} {nd : Int32} {f1 : Nat → Int32} {f2 : Nat → Int32} {f3 : Nat → Int32} {f4 : Nat → Int32} {g5 : Nat → Int64} {g6 : Nat → Int64} {f7 : Nat → Int32} {g8 : Nat → Int64} {g9 : Nat → Int64} {g10 : Nat → Int64} {g11 : Nat → Int64} {g12 : Nat → Int64} {g13 : Nat → Int64} {g14 : Nat → Int64} {g15 : Nat → Int64} {f16 : Nat → Int32} {g17 : Nat → Int64} {M : bm_Map} (h : bm_MD ct m th tr bl np nd f1 f2 f3 f4 g5 g6 f7 g8 g9 g10 g11 g12 g13 g14 g15 f16 g17 M) : M (m + 5) = some (.inl (ct 1, 32, .inr (.inl g5))) := h.2.2.2.2.2.1
theorem bm_MD.c6 {ct : Nat → ClassId} {m : Nat} {th : Int32} {tr : Int32} {bl : Int64} {np : Int32} {nd : Int32} {f1 : Nat → Int32} {f2 : Nat → Int32} {f3 : Nat → Int32} {f4 : Nat → Int32} {g5 : Nat → Int64} {g6 : Nat → Int64} {f7 : Nat → Int32} {g8 : Nat → Int64} {g9 : Nat → Int64} {g10 : Nat → Int64} {g11 : Nat → Int64} {g12 : Nat → Int64} {g13 : Nat → Int64} {g14 : Nat → Int64} {g15 : Nat → Int64} {f16 : Nat → Int32} {g17 : Nat → Int64} {M : bm_Map} (h : bm_MD ct m th tr bl np nd f1 f2 f3 f4 g5 g6 f7 g8 g9 g10 g11 g12 g13 g14 g15 f16 g17 M) : M (m + 6) = some (.inl (ct 1, 32, .inr (.inl g6))) := h.2.2.2.2.2.2.1
theorem bm_MD.c7 {ct : Nat → ClassId} {m : Nat} {th : Int32} {tr : Int32} {bl : Int64} {np : Int32} {nd : Int32} {f1 : Nat → Int32} {f2 : Nat → Int32} {f3 : Nat → Int32} {f4 : Nat → Int32} {g5 : Nat → Int64} {g6 : Nat → Int64} {f7 : Nat → Int32} {g8 : Nat → Int64} {g9 : Nat → Int64} {g10 : Nat → Int64} {g11 : Nat → Int64} {g12 : Nat → Int64} {g13 : Nat → Int64} {g14 : Nat → Int64} {g15 : Nat → Int64} {f16 : Nat → Int32} {g17 : Nat → Int64} {M : bm_Map} (h : bm_MD ct m th tr bl np nd f1 f2 f3 f4 g5 g6 f7 g8 g9 g10 g11 g12 g13 g14 g15 f16 g17 M) : M (m + 7) = some (.inl (ct 2, 32, .inl f7)) := h.2.2.2.2.2.2.2.1
theorem bm_MD.c8 {ct : Nat → ClassId} {m : Nat} {th : Int32} {tr : Int32} {bl : Int64} {np : Int32} {nd : Int32} {f1 : Nat → Int32} {f2 : Nat → Int32} {f3 : Nat → Int32} {f4 : Nat → Int32} {g5 : Nat → Int64} {g6 : Nat → Int64} {f7 : Nat → Int32} {g8 : Nat → Int64} {g9 : Nat → Int64} {g10 : Nat → Int64} {g11 : Nat → Int64} {g12 : Nat → Int64} {g13 : Nat → Int64} {g14 : Nat → Int64} {g15 : Nat → Int64} {f16 : Nat → Int32} {g17 : Nat → Int64} {M : bm_Map} (h : bm_MD ct m th tr bl np nd f1 f2 f3 f4 g5 g6 f7 g8 g9 g10 g11 g12 g13 g14 g15 f16 g17 M) : M (m + 8) = some (.inl (ct 1, 512, .inr (.inl g8))) := h.2.2.2.2.2.2.2.2.1
theorem bm_MD.c9 {ct : Nat → ClassId} {m : Nat} {th : Int32} {tr : Int32} {bl : Int64} {np : Int32} {nd : Int32} {f1 : Nat → Int32} {f2 : Nat → Int32} {f3 : Nat → Int32} {f4 : Nat → Int32} {g5 : Nat → Int64} {g6 : Nat → Int64} {f7 : Nat → Int32} {g8 : Nat → Int64} {g9 : Nat → Int64} {g10 : Nat → Int64} {g11 : Nat → Int64} {g12 : Nat → Int64} {g13 : Nat → Int64} {g14 : Nat → Int64} {g15 : Nat → Int64} {f16 : Nat → Int32} {g17 : Nat → Int64} {M : bm_Map} (h : bm_MD ct m th tr bl np nd f1 f2 f3 f4 g5 g6 f7 g8 g9 g10 g11 g12 g13 g14 g15 f16 g17 M) : M (m + 9) = some (.inl (ct 1, 320, .inr (.inl g9))) := h.2.2.2.2.2.2.2.2.2.1
theorem bm_MD.c10 {ct : Nat → ClassId} {m : Nat} {th : Int32} {tr : Int32} {bl : Int64} {np : Int32} {nd : Int32} {f1 : Nat → Int32} {f2 : Nat → Int32} {f3 : Nat → Int32} {f4 : Nat → Int32} {g5 : Nat → Int64} {g6 : Nat → Int64} {f7 : Nat → Int32} {g8 : Nat → Int64} {g9 : Nat → Int64} {g10 : Nat → Int64} {g11 : Nat → Int64} {g12 : Nat → Int64} {g13 : Nat → Int64} {g14 : Nat → Int64} {g15 : Nat → Int64} {f16 : Nat → Int32} {g17 : Nat → Int64} {M : bm_Map} (h : bm_MD ct m th tr bl np nd f1 f2 f3 f4 g5 g6 f7 g8 g9 g10 g11 g12 g13 g14 g15 f16 g17 M) : M (m + 10) = some (.inl (ct 1, 5200, .inr (.inl g10))) := h.2.2.2.2.2.2.2.2.2.2.1
theorem bm_MD.c11 {ct : Nat → ClassId} {m : Nat} {th : Int32} {tr : Int32} {bl : Int64} {np : Int32} {nd : Int32} {f1 : Nat → Int32} {f2 : Nat → Int32} {f3 : Nat → Int32} {f4 : Nat → Int32} {g5 : Nat → Int64} {g6 : Nat → Int64} {f7 : Nat → Int32} {g8 : Nat → Int64} {g9 : Nat → Int64} {g10 : Nat → Int64} {g11 : Nat → Int64} {g12 : Nat → Int64} {g13 : Nat → Int64} {g14 : Nat → Int64} {g15 : Nat → Int64} {f16 : Nat → Int32} {g17 : Nat → Int64} {M : bm_Map} (h : bm_MD ct m th tr bl np nd f1 f2 f3 f4 g5 g6 f7 g8 g9 g10 g11 g12 g13 g14 g15 f16 g17 M) : M (m + 11) = some (.inl (ct 1, 6, .inr (.inl g11))) := h.2.2.2.2.2.2.2.2.2.2.2.1
theorem bm_MD.c12 {ct : Nat → ClassId} {m : Nat} {th : Int32} {tr : Int32} {bl : Int64} {np : Int32} {nd : Int32} {f1 : Nat → Int32} {f2 : Nat → Int32} {f3 : Nat → Int32} {f4 : Nat → Int32} {g5 : Nat → Int64} {g6 : Nat → Int64} {f7 : Nat → Int32} {g8 : Nat → Int64} {g9 : Nat → Int64} {g10 : Nat → Int64} {g11 : Nat → Int64} {g12 : Nat → Int64} {g13 : Nat → Int64} {g14 : Nat → Int64} {g15 : Nat → Int64} {f16 : Nat → Int32} {g17 : Nat → Int64} {M : bm_Map} (h : bm_MD ct m th tr bl np nd f1 f2 f3 f4 g5 g6 f7 g8 g9 g10 g11 g12 g13 g14 g15 f16 g17 M) : M (m + 12) = some (.inl (ct 1, 6, .inr (.inl g12))) := h.2.2.2.2.2.2.2.2.2.2.2.2.1
theorem bm_MD.c13 {ct : Nat → ClassId} {m : Nat} {th : Int32} {tr : Int32} {bl : Int64} {np : Int32} {nd : Int32} {f1 : Nat → Int32} {f2 : Nat → Int32} {f3 : Nat → Int32} {f4 : Nat → Int32} {g5 : Nat → Int64} {g6 : Nat → Int64} {f7 : Nat → Int32} {g8 : Nat → Int64} {g9 : Nat → Int64} {g10 : Nat → Int64} {g11 : Nat → Int64} {g12 : Nat → Int64} {g13 : Nat → Int64} {g14 : Nat → Int64} {g15 : Nat → Int64} {f16 : Nat → Int32} {g17 : Nat → Int64} {M : bm_Map} (h : bm_MD ct m th tr bl np nd f1 f2 f3 f4 g5 g6 f7 g8 g9 g10 g11 g12 g13 g14 g15 f16 g17 M) : M (m + 13) = some (.inl (ct 1, 6, .inr (.inl g13))) := h.2.2.2.2.2.2.2.2.2.2.2.2.2.1
theorem bm_MD.c14 {ct : Nat → ClassId} {m : Nat} {th : Int32} {tr : Int32} {bl : Int64} {np : Int32} {nd : Int32} {f1 : Nat → Int32} {f2 : Nat → Int32} {f3 : Nat → Int32} {f4 : Nat → Int32} {g5 : Nat → Int64} {g6 : Nat → Int64} {f7 : Nat → Int32} {g8 : Nat → Int64} {g9 : Nat → Int64} {g10 : Nat → Int64} {g11 : Nat → Int64} {g12 : Nat → Int64} {g13 : Nat → Int64} {g14 : Nat → Int64} {g15 : Nat → Int64} {f16 : Nat → Int32} {g17 : Nat → Int64} {M : bm_Map} (h : bm_MD ct m th tr bl np nd f1 f2 f3 f4 g5 g6 f7 g8 g9 g10 g11 g12 g13 g14 g15 f16 g17 M) : M (m + 14) = some (.inl (ct 1, 6, .inr (.inl g14))) := h.2.2.2.2.2.2.2.2.2.2.2.2.2.2.1
theorem bm_MD.c15 {ct : Nat → ClassId} {m : Nat} {th : Int32} {tr : Int32} {bl : Int64} {np : Int32} {nd : Int32} {f1 : Nat → Int32} {f2 : Nat → Int32} {f3 : Nat → Int32} {f4 : Nat → Int32} {g5 : Nat → Int64} {g6 : Nat → Int64} {f7 : Nat → Int32} {g8 : Nat → Int64} {g9 : Nat → Int64} {g10 : Nat → Int64} {g11 : Nat → Int64} {g12 : Nat → Int64} {g13 : Nat → Int64} {g14 : Nat → Int64} {g15 : Nat → Int64} {f16 : Nat → Int32} {g17 : Nat → Int64} {M : bm_Map} (h : bm_MD ct m th tr bl np nd f1 f2 f3 f4 g5 g6 f7 g8 g9 g10 g11 g12 g13 g14 g15 f16 g17 M) : M (m + 15) = some (.inl (ct 1, 6, .inr (.inl g15))) := h.2.2.2.2.2.2.2.2.2.2.2.2.2.2.2.1
theorem bm_MD.c16 {ct : Nat → ClassId} {m : Nat} {th : Int32} {tr : Int32} {bl : Int64} {np : Int32} {nd : Int32} {f1 : Nat → Int32} {f2 : Nat → Int32} {f3 : Nat → Int32} {f4 : Nat → Int32} {g5 : Nat → Int64} {g6 : Nat → Int64} {f7 : Nat → Int32} {g8 : Nat → Int64} {g9 : Nat → Int64} {g10 : Nat → Int64} {g11 : Nat → Int64} {g12 : Nat → Int64} {g13 : Nat → Int64} {g14 : Nat → Int64} {g15 : Nat → Int64} {f16 : Nat → Int32} {g17 : Nat → Int64} {M : bm_Map} (h : bm_MD ct m th tr bl np nd f1 f2 f3 f4 g5 g6 f7 g8 g9 g10 g11 g12 g13 g14 g15 f16 g17 M) : M (m + 16) = some (.inl (ct 2, 6, .inl f16)) := h.2.2.2.2.2.2.2.2.2.2.2.2.2.2.2.2.1
theorem bm_MD.c17 {ct : Nat → ClassId} {m : Nat} {th : Int32} {tr : Int32} {bl : Int64} {np : Int32} {nd : Int32} {f1 : Nat → Int32} {f2 : Nat → Int32} {f3 : Nat → Int32} {f4 : Nat → Int32} {g5 : Nat → Int64} {g6 : Nat → Int64} {f7 : Nat → Int32} {g8 : Nat → Int64} {g9 : Nat → Int64} {g10 : Nat → Int64} {g11 : Nat → Int64} {g12 : Nat → Int64} {g13 : Nat → Int64} {g14 : Nat → Int64} {g15 : Nat → Int64} {f16 : Nat → Int32} {g17 : Nat → Int64} {M : bm_Map} (h : bm_MD ct m th tr bl np nd f1 f2 f3 f4 g5 g6 f7 g8 g9 g10 g11 g12 g13 g14 g15 f16 g17 M) : M (m + 17) = some (.inl (ct 1, 4, .inr (.inl g17))) := h.2.2.2.2.2.2.2.2.2.2.2.2.2.2.2.2.2
theorem bm_MD.s_th {ct : Nat → ClassId} {m : Nat} {th : Int32} {tr : Int32} {bl : Int64} {np : Int32} {nd : Int32} {f1 : Nat → Int32} {f2 : Nat → Int32} {f3 : Nat → Int32} {f4 : Nat → Int32} {g5 : Nat → Int64} {g6 : Nat → Int64} {f7 : Nat → Int32} {g8 : Nat → Int64} {g9 : Nat → Int64} {g10 : Nat → Int64} {g11 : Nat → Int64} {g12 : Nat → Int64} {g13 : Nat → Int64} {g14 : Nat → Int64} {g15 : Nat → Int64} {f16 : Nat → Int32} {g17 : Nat → Int64} {M : bm_Map} (h : bm_MD ct m th tr bl np nd f1 f2 f3 f4 g5 g6 f7 g8 g9 g10 g11 g12 g13 g14 g15 f16 g17 M) (x : Int32) : bm_MD ct m x tr bl np nd f1 f2 f3 f4 g5 g6 f7 g8 g9 g10 g11 g12 g13 g14 g15 f16 g17 (bm_up M (m) (.inr (7, [.int x, .ref (m + 1), .ref (m + 2), .int tr, .long bl, .ref (m + 3), .ref (m + 4), .ref (m + 5), .ref (m + 6), .ref (m + 7), .ref (m + 8), .int np, .ref (m + 9), .int nd, .ref (m + 10), .ref (m + 11), .ref (m + 12), .ref (m + 13), .ref (m + 14), .ref (m + 15), .ref (m + 16), .ref (m + 17)]))) := ⟨bm_up_self _ _ _, by rw [bm_up_ne (by omega)]; exact h.c1, by rw [bm_up_ne (by omega)]; exact h.c2, by rw [bm_up_ne (by omega)]; exact h.c3, by rw [bm_up_ne (by omega)]; exact h.c4, by rw [bm_up_ne (by omega)]; exact h.c5, by rw [bm_up_ne (by omega)]; exact h.c6, by rw [bm_up_ne (by omega)]; exact h.c7, by rw [bm_up_ne (by omega)]; exact h.c8, by rw [bm_up_ne (by omega)]; exact h.c9, by rw [bm_up_ne (by omega)]; exact h.c10, by rw [bm_up_ne (by omega)]; exact h.c11, by rw [bm_up_ne (by omega)]; exact h.c12, by rw [bm_up_ne (by omega)]; exact h.c13, by rw [bm_up_ne (by omega)]; exact h.c14, by rw [bm_up_ne (by omega)]; exact h.c15, by rw [bm_up_ne (by omega)]; exact h.c16, by rw [bm_up_ne (by omega)]; exact h.c17⟩
theorem bm_MD.s_tr {ct : Nat → ClassId} {m : Nat} {th : Int32} {tr : Int32} {bl : Int64} {np : Int32} {nd : Int32} {f1 : Nat → Int32} {f2 : Nat → Int32} {f3 : Nat → Int32} {f4 : Nat → Int32} {g5 : Nat → Int64} {g6 : Nat → Int64} {f7 : Nat → Int32} {g8 : Nat → Int64} {g9 : Nat → Int64} {g10 : Nat → Int64} {g11 : Nat → Int64} {g12 : Nat → Int64} {g13 : Nat → Int64} {g14 : Nat → Int64} {g15 : Nat → Int64} {f16 : Nat → Int32} {g17 : Nat → Int64} {M : bm_Map} (h : bm_MD ct m th tr bl np nd f1 f2 f3 f4 g5 g6 f7 g8 g9 g10 g11 g12 g13 g14 g15 f16 g17 M) (x : Int32) : bm_MD ct m th x bl np nd f1 f2 f3 f4 g5 g6 f7 g8 g9 g10 g11 g12 g13 g14 g15 f16 g17 (bm_up M (m) (.inr (7, [.int th, .ref (m + 1), .ref (m + 2), .int x, .long bl, .ref (m + 3), .ref (m + 4), .ref (m + 5), .ref (m + 6), .ref (m + 7), .ref (m + 8), .int np, .ref (m + 9), .int nd, .ref (m + 10), .ref (m + 11), .ref (m + 12), .ref (m + 13), .ref (m + 14), .ref (m + 15), .ref (m + 16), .ref (m + 17)]))) := ⟨bm_up_self _ _ _, by rw [bm_up_ne (by omega)]; exact h.c1, by rw [bm_up_ne (by omega)]; exact h.c2, by rw [bm_up_ne (by omega)]; exact h.c3, by rw [bm_up_ne (by omega)]; exact h.c4, by rw [bm_up_ne (by omega)]; exact h.c5, by rw [bm_up_ne (by omega)]; exact h.c6, by rw [bm_up_ne (by omega)]; exact h.c7, by rw [bm_up_ne (by omega)]; exact h.c8, by rw [bm_up_ne (by omega)]; exact h.c9, by rw [bm_up_ne (by omega)]; exact h.c10, by rw [bm_up_ne (by omega)]; exact h.c11, by rw [bm_up_ne (by omega)]; exact h.c12, by rw [bm_up_ne (by omega)]; exact h.c13, by rw [bm_up_ne (by omega)]; exact h.c14, by rw [bm_up_ne (by omega)]; exact h.c15, by rw [bm_up_ne (by omega)]; exact h.c16, by rw [bm_up_ne (by omega)]; exact h.c17⟩
theorem bm_MD.s_bl {ct : Nat → ClassId} {m : Nat} {th : Int32} {tr : Int32} {bl : Int64} {np : Int32} {nd : Int32} {f1 : Nat → Int32} {f2 : Nat → Int32} {f3 : Nat → Int32} {f4 : Nat → Int32} {g5 : Nat → Int64} {g6 : Nat → Int64} {f7 : Nat → Int32} {g8 : Nat → Int64} {g9 : Nat → Int64} {g10 : Nat → Int64} {g11 : Nat → Int64} {g12 : Nat → Int64} {g13 : Nat → Int64} {g14 : Nat → Int64} {g15 : Nat → Int64} {f16 : Nat → Int32} {g17 : Nat → Int64} {M : bm_Map} (h : bm_MD ct m th tr bl np nd f1 f2 f3 f4 g5 g6 f7 g8 g9 g10 g11 g12 g13 g14 g15 f16 g17 M) (x : Int64) : bm_MD ct m th tr x np nd f1 f2 f3 f4 g5 g6 f7 g8 g9 g10 g11 g12 g13 g14 g15 f16 g17 (bm_up M (m) (.inr (7, [.int th, .ref (m + 1), .ref (m + 2), .int tr, .long x, .ref (m + 3), .ref (m + 4), .ref (m + 5), .ref (m + 6), .ref (m + 7), .ref (m + 8), .int np, .ref (m + 9), .int nd, .ref (m + 10), .ref (m + 11), .ref (m + 12), .ref (m + 13), .ref (m + 14), .ref (m + 15), .ref (m + 16), .ref (m + 17)]))) := ⟨bm_up_self _ _ _, by rw [bm_up_ne (by omega)]; exact h.c1, by rw [bm_up_ne (by omega)]; exact h.c2, by rw [bm_up_ne (by omega)]; exact h.c3, by rw [bm_up_ne (by omega)]; exact h.c4, by rw [bm_up_ne (by omega)]; exact h.c5, by rw [bm_up_ne (by omega)]; exact h.c6, by rw [bm_up_ne (by omega)]; exact h.c7, by rw [bm_up_ne (by omega)]; exact h.c8, by rw [bm_up_ne (by omega)]; exact h.c9, by rw [bm_up_ne (by omega)]; exact h.c10, by rw [bm_up_ne (by omega)]; exact h.c11, by rw [bm_up_ne (by omega)]; exact h.c12, by rw [bm_up_ne (by omega)]; exact h.c13, by rw [bm_up_ne (by omega)]; exact h.c14, by rw [bm_up_ne (by omega)]; exact h.c15, by rw [bm_up_ne (by omega)]; exact h.c16, by rw [bm_up_ne (by omega)]; exact h.c17⟩
theorem bm_MD.s_np {ct : Nat → ClassId} {m : Nat} {th : Int32} {tr : Int32} {bl : Int64} {np : Int32} {nd : Int32} {f1 : Nat → Int32} {f2 : Nat → Int32} {f3 : Nat → Int32} {f4 : Nat → Int32} {g5 : Nat → Int64} {g6 : Nat → Int64} {f7 : Nat → Int32} {g8 : Nat → Int64} {g9 : Nat → Int64} {g10 : Nat → Int64} {g11 : Nat → Int64} {g12 : Nat → Int64} {g13 : Nat → Int64} {g14 : Nat → Int64} {g15 : Nat → Int64} {f16 : Nat → Int32} {g17 : Nat → Int64} {M : bm_Map} (h : bm_MD ct m th tr bl np nd f1 f2 f3 f4 g5 g6 f7 g8 g9 g10 g11 g12 g13 g14 g15 f16 g17 M) (x : Int32) : bm_MD ct m th tr bl x nd f1 f2 f3 f4 g5 g6 f7 g8 g9 g10 g11 g12 g13 g14 g15 f16 g17 (bm_up M (m) (.inr (7, [.int th, .ref (m + 1), .ref (m + 2), .int tr, .long bl, .ref (m + 3), .ref (m + 4), .ref (m + 5), .ref (m + 6), .ref (m + 7), .ref (m + 8), .int x, .ref (m + 9), .int nd, .ref (m + 10), .ref (m + 11), .ref (m + 12), .ref (m + 13), .ref (m + 14), .ref (m + 15), .ref (m + 16), .ref (m + 17)]))) := ⟨bm_up_self _ _ _, by rw [bm_up_ne (by omega)]; exact h.c1, by rw [bm_up_ne (by omega)]; exact h.c2, by rw [bm_up_ne (by omega)]; exact h.c3, by rw [bm_up_ne (by omega)]; exact h.c4, by rw [bm_up_ne (by omega)]; exact h.c5, by rw [bm_up_ne (by omega)]; exact h.c6, by rw [bm_up_ne (by omega)]; exact h.c7, by rw [bm_up_ne (by omega)]; exact h.c8, by rw [bm_up_ne (by omega)]; exact h.c9, by rw [bm_up_ne (by omega)]; exact h.c10, by rw [bm_up_ne (by omega)]; exact h.c11, by rw [bm_up_ne (by omega)]; exact h.c12, by rw [bm_up_ne (by omega)]; exact h.c13, by rw [bm_up_ne (by omega)]; exact h.c14, by rw [bm_up_ne (by omega)]; exact h.c15, by rw [bm_up_ne (by omega)]; exact h.c16, by rw [bm_up_ne (by omega)]; exact h.c17⟩
theorem bm_MD.s_nd {ct : Nat → ClassId} {m : Nat} {th : Int32} {tr : Int32} {bl : Int64} {np : Int32} {nd : Int32} {f1 : Nat → Int32} {f2 : Nat → Int32} {f3 : Nat → Int32} {f4 : Nat → Int32} {g5 : Nat → Int64} {g6 : Nat → Int64} {f7 : Nat → Int32} {g8 : Nat → Int64} {g9 : Nat → Int64} {g10 : Nat → Int64} {g11 : Nat → Int64} {g12 : Nat → Int64} {g13 : Nat → Int64} {g14 : Nat → Int64} {g15 : Nat → Int64} {f16 : Nat → Int32} {g17 : Nat → Int64} {M : bm_Map} (h : bm_MD ct m th tr bl np nd f1 f2 f3 f4 g5 g6 f7 g8 g9 g10 g11 g12 g13 g14 g15 f16 g17 M) (x : Int32) : bm_MD ct m th tr bl np x f1 f2 f3 f4 g5 g6 f7 g8 g9 g10 g11 g12 g13 g14 g15 f16 g17 (bm_up M (m) (.inr (7, [.int th, .ref (m + 1), .ref (m + 2), .int tr, .long bl, .ref (m + 3), .ref (m + 4), .ref (m + 5), .ref (m + 6), .ref (m + 7), .ref (m + 8), .int np, .ref (m + 9), .int x, .ref (m + 10), .ref (m + 11), .ref (m + 12), .ref (m + 13), .ref (m + 14), .ref (m + 15), .ref (m + 16), .ref (m + 17)]))) := ⟨bm_up_self _ _ _, by rw [bm_up_ne (by omega)]; exact h.c1, by rw [bm_up_ne (by omega)]; exact h.c2, by rw [bm_up_ne (by omega)]; exact h.c3, by rw [bm_up_ne (by omega)]; exact h.c4, by rw [bm_up_ne (by omega)]; exact h.c5, by rw [bm_up_ne (by omega)]; exact h.c6, by rw [bm_up_ne (by omega)]; exact h.c7, by rw [bm_up_ne (by omega)]; exact h.c8, by rw [bm_up_ne (by omega)]; exact h.c9, by rw [bm_up_ne (by omega)]; exact h.c10, by rw [bm_up_ne (by omega)]; exact h.c11, by rw [bm_up_ne (by omega)]; exact h.c12, by rw [bm_up_ne (by omega)]; exact h.c13, by rw [bm_up_ne (by omega)]; exact h.c14, by rw [bm_up_ne (by omega)]; exact h.c15, by rw [bm_up_ne (by omega)]; exact h.c16, by rw [bm_up_ne (by omega)]; exact h.c17⟩
theorem bm_MD.s1 {ct : Nat → ClassId} {m : Nat} {th : Int32} {tr : Int32} {bl : Int64} {np : Int32} {nd : Int32} {f1 : Nat → Int32} {f2 : Nat → Int32} {f3 : Nat → Int32} {f4 : Nat → Int32} {g5 : Nat → Int64} {g6 : Nat → Int64} {f7 : Nat → Int32} {g8 : Nat → Int64} {g9 : Nat → Int64} {g10 : Nat → Int64} {g11 : Nat → Int64} {g12 : Nat → Int64} {g13 : Nat → Int64} {g14 : Nat → Int64} {g15 : Nat → Int64} {f16 : Nat → Int32} {g17 : Nat → Int64} {M : bm_Map} (h : bm_MD ct m th tr bl np nd f1 f2 f3 f4 g5 g6 f7 g8 g9 g10 g11 g12 g13 g14 g15 f16 g17 M) (x : Nat → Int32) : bm_MD ct m th tr bl np nd x f2 f3 f4 g5 g6 f7 g8 g9 g10 g11 g12 g13 g14 g15 f16 g17 (bm_up M (m + 1) (.inl (ct 0, 4, .inl x))) := ⟨by rw [bm_up_ne (by omega)]; exact h.c0, bm_up_self _ _ _, by rw [bm_up_ne (by omega)]; exact h.c2, by rw [bm_up_ne (by omega)]; exact h.c3, by rw [bm_up_ne (by omega)]; exact h.c4, by rw [bm_up_ne (by omega)]; exact h.c5, by rw [bm_up_ne (by omega)]; exact h.c6, by rw [bm_up_ne (by omega)]; exact h.c7, by rw [bm_up_ne (by omega)]; exact h.c8, by rw [bm_up_ne (by omega)]; exact h.c9, by rw [bm_up_ne (by omega)]; exact h.c10, by rw [bm_up_ne (by omega)]; exact h.c11, by rw [bm_up_ne (by omega)]; exact h.c12, by rw [bm_up_ne (by omega)]; exact h.c13, by rw [bm_up_ne (by omega)]; exact h.c14, by rw [bm_up_ne (by omega)]; exact h.c15, by rw [bm_up_ne (by omega)]; exact h.c16, by rw [bm_up_ne (by omega)]; exact h.c17⟩
theorem bm_MD.s2 {ct : Nat → ClassId} {m : Nat} {th : Int32} {tr : Int32} {bl : Int64} {np : Int32} {nd : Int32} {f1 : Nat → Int32} {f2 : Nat → Int32} {f3 : Nat → Int32} {f4 : Nat → Int32} {g5 : Nat → Int64} {g6 : Nat → Int64} {f7 : Nat → Int32} {g8 : Nat → Int64} {g9 : Nat → Int64} {g10 : Nat → Int64} {g11 : Nat → Int64} {g12 : Nat → Int64} {g13 : Nat → Int64} {g14 : Nat → Int64} {g15 : Nat → Int64} {f16 : Nat → Int32} {g17 : Nat → Int64} {M : bm_Map} (h : bm_MD ct m th tr bl np nd f1 f2 f3 f4 g5 g6 f7 g8 g9 g10 g11 g12 g13 g14 g15 f16 g17 M) (x : Nat → Int32) : bm_MD ct m th tr bl np nd f1 x f3 f4 g5 g6 f7 g8 g9 g10 g11 g12 g13 g14 g15 f16 g17 (bm_up M (m + 2) (.inl (ct 0, 4, .inl x))) := ⟨by rw [bm_up_ne (by omega)]; exact h.c0, by rw [bm_up_ne (by omega)]; exact h.c1, bm_up_self _ _ _, by rw [bm_up_ne (by omega)]; exact h.c3, by rw [bm_up_ne (by omega)]; exact h.c4, by rw [bm_up_ne (by omega)]; exact h.c5, by rw [bm_up_ne (by omega)]; exact h.c6, by rw [bm_up_ne (by omega)]; exact h.c7, by rw [bm_up_ne (by omega)]; exact h.c8, by rw [bm_up_ne (by omega)]; exact h.c9, by rw [bm_up_ne (by omega)]; exact h.c10, by rw [bm_up_ne (by omega)]; exact h.c11, by rw [bm_up_ne (by omega)]; exact h.c12, by rw [bm_up_ne (by omega)]; exact h.c13, by rw [bm_up_ne (by omega)]; exact h.c14, by rw [bm_up_ne (by omega)]; exact h.c15, by rw [bm_up_ne (by omega)]; exact h.c16, by rw [bm_up_ne (by omega)]; exact h.c17⟩
theorem bm_MD.s3 {ct : Nat → ClassId} {m : Nat} {th : Int32} {tr : Int32} {bl : Int64} {np : Int32} {nd : Int32} {f1 : Nat → Int32} {f2 : Nat → Int32} {f3 : Nat → Int32} {f4 : Nat → Int32} {g5 : Nat → Int64} {g6 : Nat → Int64} {f7 : Nat → Int32} {g8 : Nat → Int64} {g9 : Nat → Int64} {g10 : Nat → Int64} {g11 : Nat → Int64} {g12 : Nat → Int64} {g13 : Nat → Int64} {g14 : Nat → Int64} {g15 : Nat → Int64} {f16 : Nat → Int32} {g17 : Nat → Int64} {M : bm_Map} (h : bm_MD ct m th tr bl np nd f1 f2 f3 f4 g5 g6 f7 g8 g9 g10 g11 g12 g13 g14 g15 f16 g17 M) (x : Nat → Int32) : bm_MD ct m th tr bl np nd f1 f2 x f4 g5 g6 f7 g8 g9 g10 g11 g12 g13 g14 g15 f16 g17 (bm_up M (m + 3) (.inl (ct 0, 4, .inl x))) := ⟨by rw [bm_up_ne (by omega)]; exact h.c0, by rw [bm_up_ne (by omega)]; exact h.c1, by rw [bm_up_ne (by omega)]; exact h.c2, bm_up_self _ _ _, by rw [bm_up_ne (by omega)]; exact h.c4, by rw [bm_up_ne (by omega)]; exact h.c5, by rw [bm_up_ne (by omega)]; exact h.c6, by rw [bm_up_ne (by omega)]; exact h.c7, by rw [bm_up_ne (by omega)]; exact h.c8, by rw [bm_up_ne (by omega)]; exact h.c9, by rw [bm_up_ne (by omega)]; exact h.c10, by rw [bm_up_ne (by omega)]; exact h.c11, by rw [bm_up_ne (by omega)]; exact h.c12, by rw [bm_up_ne (by omega)]; exact h.c13, by rw [bm_up_ne (by omega)]; exact h.c14, by rw [bm_up_ne (by omega)]; exact h.c15, by rw [bm_up_ne (by omega)]; exact h.c16, by rw [bm_up_ne (by omega)]; exact h.c17⟩
theorem bm_MD.s4 {ct : Nat → ClassId} {m : Nat} {th : Int32} {tr : Int32} {bl : Int64} {np : Int32} {nd : Int32} {f1 : Nat → Int32} {f2 : Nat → Int32} {f3 : Nat → Int32} {f4 : Nat → Int32} {g5 : Nat → Int64} {g6 : Nat → Int64} {f7 : Nat → Int32} {g8 : Nat → Int64} {g9 : Nat → Int64} {g10 : Nat → Int64} {g11 : Nat → Int64} {g12 : Nat → Int64} {g13 : Nat → Int64} {g14 : Nat → Int64} {g15 : Nat → Int64} {f16 : Nat → Int32} {g17 : Nat → Int64} {M : bm_Map} (h : bm_MD ct m th tr bl np nd f1 f2 f3 f4 g5 g6 f7 g8 g9 g10 g11 g12 g13 g14 g15 f16 g17 M) (x : Nat → Int32) : bm_MD ct m th tr bl np nd f1 f2 f3 x g5 g6 f7 g8 g9 g10 g11 g12 g13 g14 g15 f16 g17 (bm_up M (m + 4) (.inl (ct 0, 32, .inl x))) := ⟨by rw [bm_up_ne (by omega)]; exact h.c0, by rw [bm_up_ne (by omega)]; exact h.c1, by rw [bm_up_ne (by omega)]; exact h.c2, by rw [bm_up_ne (by omega)]; exact h.c3, bm_up_self _ _ _, by rw [bm_up_ne (by omega)]; exact h.c5, by rw [bm_up_ne (by omega)]; exact h.c6, by rw [bm_up_ne (by omega)]; exact h.c7, by rw [bm_up_ne (by omega)]; exact h.c8, by rw [bm_up_ne (by omega)]; exact h.c9, by rw [bm_up_ne (by omega)]; exact h.c10, by rw [bm_up_ne (by omega)]; exact h.c11, by rw [bm_up_ne (by omega)]; exact h.c12, by rw [bm_up_ne (by omega)]; exact h.c13, by rw [bm_up_ne (by omega)]; exact h.c14, by rw [bm_up_ne (by omega)]; exact h.c15, by rw [bm_up_ne (by omega)]; exact h.c16, by rw [bm_up_ne (by omega)]; exact h.c17⟩
theorem bm_MD.s5 {ct : Nat → ClassId} {m : Nat} {th : Int32} {tr : Int32} {bl : Int64} {np : Int32} {nd : Int32} {f1 : Nat → Int32} {f2 : Nat → Int32} {f3 : Nat → Int32} {f4 : Nat → Int32} {g5 : Nat → Int64} {g6 : Nat → Int64} {f7 : Nat → Int32} {g8 : Nat → Int64} {g9 : Nat → Int64} {g10 : Nat → Int64} {g11 : Nat → Int64} {g12 : Nat → Int64} {g13 : Nat → Int64} {g14 : Nat → Int64} {g15 : Nat → Int64} {f16 : Nat → Int32} {g17 : Nat → Int64} {M : bm_Map} (h : bm_MD ct m th tr bl np nd f1 f2 f3 f4 g5 g6 f7 g8 g9 g10 g11 g12 g13 g14 g15 f16 g17 M) (x : Nat → Int64) : bm_MD ct m th tr bl np nd f1 f2 f3 f4 x g6 f7 g8 g9 g10 g11 g12 g13 g14 g15 f16 g17 (bm_up M (m + 5) (.inl (ct 1, 32, .inr (.inl x)))) := ⟨by rw [bm_up_ne (by omega)]; exact h.c0, by rw [bm_up_ne (by omega)]; exact h.c1, by rw [bm_up_ne (by omega)]; exact h.c2, by rw [bm_up_ne (by omega)]; exact h.c3, by rw [bm_up_ne (by omega)]; exact h.c4, bm_up_self _ _ _, by rw [bm_up_ne (by omega)]; exact h.c6, by rw [bm_up_ne (by omega)]; exact h.c7, by rw [bm_up_ne (by omega)]; exact h.c8, by rw [bm_up_ne (by omega)]; exact h.c9, by rw [bm_up_ne (by omega)]; exact h.c10, by rw [bm_up_ne (by omega)]; exact h.c11, by rw [bm_up_ne (by omega)]; exact h.c12, by rw [bm_up_ne (by omega)]; exact h.c13, by rw [bm_up_ne (by omega)]; exact h.c14, by rw [bm_up_ne (by omega)]; exact h.c15, by rw [bm_up_ne (by omega)]; exact h.c16, by rw [bm_up_ne (by omega)]; exact h.c17⟩
theorem bm_MD.s6 {ct : Nat → ClassId} {m : Nat} {th : Int32} {tr : Int32} {bl : Int64} {np : Int32} {nd : Int32} {f1 : Nat → Int32} {f2 : Nat → Int32} {f3 : Nat → Int32} {f4 : Nat → Int32} {g5 : Nat → Int64} {g6 : Nat → Int64} {f7 : Nat → Int32} {g8 : Nat → Int64} {g9 : Nat → Int64} {g10 : Nat → Int64} {g11 : Nat → Int64} {g12 : Nat → Int64} {g13 : Nat → Int64} {g14 : Nat → Int64} {g15 : Nat → Int64} {f16 : Nat → Int32} {g17 : Nat → Int64} {M : bm_Map} (h : bm_MD ct m th tr bl np nd f1 f2 f3 f4 g5 g6 f7 g8 g9 g10 g11 g12 g13 g14 g15 f16 g17 M) (x : Nat → Int64) : bm_MD ct m th tr bl np nd f1 f2 f3 f4 g5 x f7 g8 g9 g10 g11 g12 g13 g14 g15 f16 g17 (bm_up M (m + 6) (.inl (ct 1, 32, .inr (.inl x)))) := ⟨by rw [bm_up_ne (by omega)]; exact h.c0, by rw [bm_up_ne (by omega)]; exact h.c1, by rw [bm_up_ne (by omega)]; exact h.c2, by rw [bm_up_ne (by omega)]; exact h.c3, by rw [bm_up_ne (by omega)]; exact h.c4, by rw [bm_up_ne (by omega)]; exact h.c5, bm_up_self _ _ _, by rw [bm_up_ne (by omega)]; exact h.c7, by rw [bm_up_ne (by omega)]; exact h.c8, by rw [bm_up_ne (by omega)]; exact h.c9, by rw [bm_up_ne (by omega)]; exact h.c10, by rw [bm_up_ne (by omega)]; exact h.c11, by rw [bm_up_ne (by omega)]; exact h.c12, by rw [bm_up_ne (by omega)]; exact h.c13, by rw [bm_up_ne (by omega)]; exact h.c14, by rw [bm_up_ne (by omega)]; exact h.c15, by rw [bm_up_ne (by omega)]; exact h.c16, by rw [bm_up_ne (by omega)]; exact h.c17⟩
theorem bm_MD.s7 {ct : Nat → ClassId} {m : Nat} {th : Int32} {tr : Int32} {bl : Int64} {np : Int32} {nd : Int32} {f1 : Nat → Int32} {f2 : Nat → Int32} {f3 : Nat → Int32} {f4 : Nat → Int32} {g5 : Nat → Int64} {g6 : Nat → Int64} {f7 : Nat → Int32} {g8 : Nat → Int64} {g9 : Nat → Int64} {g10 : Nat → Int64} {g11 : Nat → Int64} {g12 : Nat → Int64} {g13 : Nat → Int64} {g14 : Nat → Int64} {g15 : Nat → Int64} {f16 : Nat → Int32} {g17 : Nat → Int64} {M : bm_Map} (h : bm_MD ct m th tr bl np nd f1 f2 f3 f4 g5 g6 f7 g8 g9 g10 g11 g12 g13 g14 g15 f16 g17 M) (x : Nat → Int32) : bm_MD ct m th tr bl np nd f1 f2 f3 f4 g5 g6 x g8 g9 g10 g11 g12 g13 g14 g15 f16 g17 (bm_up M (m + 7) (.inl (ct 2, 32, .inl x))) := ⟨by rw [bm_up_ne (by omega)]; exact h.c0, by rw [bm_up_ne (by omega)]; exact h.c1, by rw [bm_up_ne (by omega)]; exact h.c2, by rw [bm_up_ne (by omega)]; exact h.c3, by rw [bm_up_ne (by omega)]; exact h.c4, by rw [bm_up_ne (by omega)]; exact h.c5, by rw [bm_up_ne (by omega)]; exact h.c6, bm_up_self _ _ _, by rw [bm_up_ne (by omega)]; exact h.c8, by rw [bm_up_ne (by omega)]; exact h.c9, by rw [bm_up_ne (by omega)]; exact h.c10, by rw [bm_up_ne (by omega)]; exact h.c11, by rw [bm_up_ne (by omega)]; exact h.c12, by rw [bm_up_ne (by omega)]; exact h.c13, by rw [bm_up_ne (by omega)]; exact h.c14, by rw [bm_up_ne (by omega)]; exact h.c15, by rw [bm_up_ne (by omega)]; exact h.c16, by rw [bm_up_ne (by omega)]; exact h.c17⟩
theorem bm_MD.s8 {ct : Nat → ClassId} {m : Nat} {th : Int32} {tr : Int32} {bl : Int64} {np : Int32} {nd : Int32} {f1 : Nat → Int32} {f2 : Nat → Int32} {f3 : Nat → Int32} {f4 : Nat → Int32} {g5 : Nat → Int64} {g6 : Nat → Int64} {f7 : Nat → Int32} {g8 : Nat → Int64} {g9 : Nat → Int64} {g10 : Nat → Int64} {g11 : Nat → Int64} {g12 : Nat → Int64} {g13 : Nat → Int64} {g14 : Nat → Int64} {g15 : Nat → Int64} {f16 : Nat → Int32} {g17 : Nat → Int64} {M : bm_Map} (h : bm_MD ct m th tr bl np nd f1 f2 f3 f4 g5 g6 f7 g8 g9 g10 g11 g12 g13 g14 g15 f16 g17 M) (x : Nat → Int64) : bm_MD ct m th tr bl np nd f1 f2 f3 f4 g5 g6 f7 x g9 g10 g11 g12 g13 g14 g15 f16 g17 (bm_up M (m + 8) (.inl (ct 1, 512, .inr (.inl x)))) := ⟨by rw [bm_up_ne (by omega)]; exact h.c0, by rw [bm_up_ne (by omega)]; exact h.c1, by rw [bm_up_ne (by omega)]; exact h.c2, by rw [bm_up_ne (by omega)]; exact h.c3, by rw [bm_up_ne (by omega)]; exact h.c4, by rw [bm_up_ne (by omega)]; exact h.c5, by rw [bm_up_ne (by omega)]; exact h.c6, by rw [bm_up_ne (by omega)]; exact h.c7, bm_up_self _ _ _, by rw [bm_up_ne (by omega)]; exact h.c9, by rw [bm_up_ne (by omega)]; exact h.c10, by rw [bm_up_ne (by omega)]; exact h.c11, by rw [bm_up_ne (by omega)]; exact h.c12, by rw [bm_up_ne (by omega)]; exact h.c13, by rw [bm_up_ne (by omega)]; exact h.c14, by rw [bm_up_ne (by omega)]; exact h.c15, by rw [bm_up_ne (by omega)]; exact h.c16, by rw [bm_up_ne (by omega)]; exact h.c17⟩
theorem bm_MD.s9 {ct : Nat → ClassId} {m : Nat} {th : Int32} {tr : Int32} {bl : Int64} {np : Int32} {nd : Int32} {f1 : Nat → Int32} {f2 : Nat → Int32} {f3 : Nat → Int32} {f4 : Nat → Int32} {g5 : Nat → Int64} {g6 : Nat → Int64} {f7 : Nat → Int32} {g8 : Nat → Int64} {g9 : Nat → Int64} {g10 : Nat → Int64} {g11 : Nat → Int64} {g12 : Nat → Int64} {g13 : Nat → Int64} {g14 : Nat → Int64} {g15 : Nat → Int64} {f16 : Nat → Int32} {g17 : Nat → Int64} {M : bm_Map} (h : bm_MD ct m th tr bl np nd f1 f2 f3 f4 g5 g6 f7 g8 g9 g10 g11 g12 g13 g14 g15 f16 g17 M) (x : Nat → Int64) : bm_MD ct m th tr bl np nd f1 f2 f3 f4 g5 g6 f7 g8 x g10 g11 g12 g13 g14 g15 f16 g17 (bm_up M (m + 9) (.inl (ct 1, 320, .inr (.inl x)))) := ⟨by rw [bm_up_ne (by omega)]; exact h.c0, by rw [bm_up_ne (by omega)]; exact h.c1, by rw [bm_up_ne (by omega)]; exact h.c2, by rw [bm_up_ne (by omega)]; exact h.c3, by rw [bm_up_ne (by omega)]; exact h.c4, by rw [bm_up_ne (by omega)]; exact h.c5, by rw [bm_up_ne (by omega)]; exact h.c6, by rw [bm_up_ne (by omega)]; exact h.c7, by rw [bm_up_ne (by omega)]; exact h.c8, bm_up_self _ _ _, by rw [bm_up_ne (by omega)]; exact h.c10, by rw [bm_up_ne (by omega)]; exact h.c11, by rw [bm_up_ne (by omega)]; exact h.c12, by rw [bm_up_ne (by omega)]; exact h.c13, by rw [bm_up_ne (by omega)]; exact h.c14, by rw [bm_up_ne (by omega)]; exact h.c15, by rw [bm_up_ne (by omega)]; exact h.c16, by rw [bm_up_ne (by omega)]; exact h.c17⟩
theorem bm_MD.s10 {ct : Nat → ClassId} {m : Nat} {th : Int32} {tr : Int32} {bl : Int64} {np : Int32} {nd : Int32} {f1 : Nat → Int32} {f2 : Nat → Int32} {f3 : Nat → Int32} {f4 : Nat → Int32} {g5 : Nat → Int64} {g6 : Nat → Int64} {f7 : Nat → Int32} {g8 : Nat → Int64} {g9 : Nat → Int64} {g10 : Nat → Int64} {g11 : Nat → Int64} {g12 : Nat → Int64} {g13 : Nat → Int64} {g14 : Nat → Int64} {g15 : Nat → Int64} {f16 : Nat → Int32} {g17 : Nat → Int64} {M : bm_Map} (h : bm_MD ct m th tr bl np nd f1 f2 f3 f4 g5 g6 f7 g8 g9 g10 g11 g12 g13 g14 g15 f16 g17 M) (x : Nat → Int64) : bm_MD ct m th tr bl np nd f1 f2 f3 f4 g5 g6 f7 g8 g9 x g11 g12 g13 g14 g15 f16 g17 (bm_up M (m + 10) (.inl (ct 1, 5200, .inr (.inl x)))) := ⟨by rw [bm_up_ne (by omega)]; exact h.c0, by rw [bm_up_ne (by omega)]; exact h.c1, by rw [bm_up_ne (by omega)]; exact h.c2, by rw [bm_up_ne (by omega)]; exact h.c3, by rw [bm_up_ne (by omega)]; exact h.c4, by rw [bm_up_ne (by omega)]; exact h.c5, by rw [bm_up_ne (by omega)]; exact h.c6, by rw [bm_up_ne (by omega)]; exact h.c7, by rw [bm_up_ne (by omega)]; exact h.c8, by rw [bm_up_ne (by omega)]; exact h.c9, bm_up_self _ _ _, by rw [bm_up_ne (by omega)]; exact h.c11, by rw [bm_up_ne (by omega)]; exact h.c12, by rw [bm_up_ne (by omega)]; exact h.c13, by rw [bm_up_ne (by omega)]; exact h.c14, by rw [bm_up_ne (by omega)]; exact h.c15, by rw [bm_up_ne (by omega)]; exact h.c16, by rw [bm_up_ne (by omega)]; exact h.c17⟩
theorem bm_MD.s11 {ct : Nat → ClassId} {m : Nat} {th : Int32} {tr : Int32} {bl : Int64} {np : Int32} {nd : Int32} {f1 : Nat → Int32} {f2 : Nat → Int32} {f3 : Nat → Int32} {f4 : Nat → Int32} {g5 : Nat → Int64} {g6 : Nat → Int64} {f7 : Nat → Int32} {g8 : Nat → Int64} {g9 : Nat → Int64} {g10 : Nat → Int64} {g11 : Nat → Int64} {g12 : Nat → Int64} {g13 : Nat → Int64} {g14 : Nat → Int64} {g15 : Nat → Int64} {f16 : Nat → Int32} {g17 : Nat → Int64} {M : bm_Map} (h : bm_MD ct m th tr bl np nd f1 f2 f3 f4 g5 g6 f7 g8 g9 g10 g11 g12 g13 g14 g15 f16 g17 M) (x : Nat → Int64) : bm_MD ct m th tr bl np nd f1 f2 f3 f4 g5 g6 f7 g8 g9 g10 x g12 g13 g14 g15 f16 g17 (bm_up M (m + 11) (.inl (ct 1, 6, .inr (.inl x)))) := ⟨by rw [bm_up_ne (by omega)]; exact h.c0, by rw [bm_up_ne (by omega)]; exact h.c1, by rw [bm_up_ne (by omega)]; exact h.c2, by rw [bm_up_ne (by omega)]; exact h.c3, by rw [bm_up_ne (by omega)]; exact h.c4, by rw [bm_up_ne (by omega)]; exact h.c5, by rw [bm_up_ne (by omega)]; exact h.c6, by rw [bm_up_ne (by omega)]; exact h.c7, by rw [bm_up_ne (by omega)]; exact h.c8, by rw [bm_up_ne (by omega)]; exact h.c9, by rw [bm_up_ne (by omega)]; exact h.c10, bm_up_self _ _ _, by rw [bm_up_ne (by omega)]; exact h.c12, by rw [bm_up_ne (by omega)]; exact h.c13, by rw [bm_up_ne (by omega)]; exact h.c14, by rw [bm_up_ne (by omega)]; exact h.c15, by rw [bm_up_ne (by omega)]; exact h.c16, by rw [bm_up_ne (by omega)]; exact h.c17⟩
theorem bm_MD.s12 {ct : Nat → ClassId} {m : Nat} {th : Int32} {tr : Int32} {bl : Int64} {np : Int32} {nd : Int32} {f1 : Nat → Int32} {f2 : Nat → Int32} {f3 : Nat → Int32} {f4 : Nat → Int32} {g5 : Nat → Int64} {g6 : Nat → Int64} {f7 : Nat → Int32} {g8 : Nat → Int64} {g9 : Nat → Int64} {g10 : Nat → Int64} {g11 : Nat → Int64} {g12 : Nat → Int64} {g13 : Nat → Int64} {g14 : Nat → Int64} {g15 : Nat → Int64} {f16 : Nat → Int32} {g17 : Nat → Int64} {M : bm_Map} (h : bm_MD ct m th tr bl np nd f1 f2 f3 f4 g5 g6 f7 g8 g9 g10 g11 g12 g13 g14 g15 f16 g17 M) (x : Nat → Int64) : bm_MD ct m th tr bl np nd f1 f2 f3 f4 g5 g6 f7 g8 g9 g10 g11 x g13 g14 g15 f16 g17 (bm_up M (m + 12) (.inl (ct 1, 6, .inr (.inl x)))) := ⟨by rw [bm_up_ne (by omega)]; exact h.c0, by rw [bm_up_ne (by omega)]; exact h.c1, by rw [bm_up_ne (by omega)]; exact h.c2, by rw [bm_up_ne (by omega)]; exact h.c3, by rw [bm_up_ne (by omega)]; exact h.c4, by rw [bm_up_ne (by omega)]; exact h.c5, by rw [bm_up_ne (by omega)]; exact h.c6, by rw [bm_up_ne (by omega)]; exact h.c7, by rw [bm_up_ne (by omega)]; exact h.c8, by rw [bm_up_ne (by omega)]; exact h.c9, by rw [bm_up_ne (by omega)]; exact h.c10, by rw [bm_up_ne (by omega)]; exact h.c11, bm_up_self _ _ _, by rw [bm_up_ne (by omega)]; exact h.c13, by rw [bm_up_ne (by omega)]; exact h.c14, by rw [bm_up_ne (by omega)]; exact h.c15, by rw [bm_up_ne (by omega)]; exact h.c16, by rw [bm_up_ne (by omega)]; exact h.c17⟩
theorem bm_MD.s13 {ct : Nat → ClassId} {m : Nat} {th : Int32} {tr : Int32} {bl : Int64} {np : Int32} {nd : Int32} {f1 : Nat → Int32} {f2 : Nat → Int32} {f3 : Nat → Int32} {f4 : Nat → Int32} {g5 : Nat → Int64} {g6 : Nat → Int64} {f7 : Nat → Int32} {g8 : Nat → Int64} {g9 : Nat → Int64} {g10 : Nat → Int64} {g11 : Nat → Int64} {g12 : Nat → Int64} {g13 : Nat → Int64} {g14 : Nat → Int64} {g15 : Nat → Int64} {f16 : Nat → Int32} {g17 : Nat → Int64} {M : bm_Map} (h : bm_MD ct m th tr bl np nd f1 f2 f3 f4 g5 g6 f7 g8 g9 g10 g11 g12 g13 g14 g15 f16 g17 M) (x : Nat → Int64) : bm_MD ct m th tr bl np nd f1 f2 f3 f4 g5 g6 f7 g8 g9 g10 g11 g12 x g14 g15 f16 g17 (bm_up M (m + 13) (.inl (ct 1, 6, .inr (.inl x)))) := ⟨by rw [bm_up_ne (by omega)]; exact h.c0, by rw [bm_up_ne (by omega)]; exact h.c1, by rw [bm_up_ne (by omega)]; exact h.c2, by rw [bm_up_ne (by omega)]; exact h.c3, by rw [bm_up_ne (by omega)]; exact h.c4, by rw [bm_up_ne (by omega)]; exact h.c5, by rw [bm_up_ne (by omega)]; exact h.c6, by rw [bm_up_ne (by omega)]; exact h.c7, by rw [bm_up_ne (by omega)]; exact h.c8, by rw [bm_up_ne (by omega)]; exact h.c9, by rw [bm_up_ne (by omega)]; exact h.c10, by rw [bm_up_ne (by omega)]; exact h.c11, by rw [bm_up_ne (by omega)]; exact h.c12, bm_up_self _ _ _, by rw [bm_up_ne (by omega)]; exact h.c14, by rw [bm_up_ne (by omega)]; exact h.c15, by rw [bm_up_ne (by omega)]; exact h.c16, by rw [bm_up_ne (by omega)]; exact h.c17⟩
theorem bm_MD.s14 {ct : Nat → ClassId} {m : Nat} {th : Int32} {tr : Int32} {bl : Int64} {np : Int32} {nd : Int32} {f1 : Nat → Int32} {f2 : Nat → Int32} {f3 : Nat → Int32} {f4 : Nat → Int32} {g5 : Nat → Int64} {g6 : Nat → Int64} {f7 : Nat → Int32} {g8 : Nat → Int64} {g9 : Nat → Int64} {g10 : Nat → Int64} {g11 : Nat → Int64} {g12 : Nat → Int64} {g13 : Nat → Int64} {g14 : Nat → Int64} {g15 : Nat → Int64} {f16 : Nat → Int32} {g17 : Nat → Int64} {M : bm_Map} (h : bm_MD ct m th tr bl np nd f1 f2 f3 f4 g5 g6 f7 g8 g9 g10 g11 g12 g13 g14 g15 f16 g17 M) (x : Nat → Int64) : bm_MD ct m th tr bl np nd f1 f2 f3 f4 g5 g6 f7 g8 g9 g10 g11 g12 g13 x g15 f16 g17 (bm_up M (m + 14) (.inl (ct 1, 6, .inr (.inl x)))) := ⟨by rw [bm_up_ne (by omega)]; exact h.c0, by rw [bm_up_ne (by omega)]; exact h.c1, by rw [bm_up_ne (by omega)]; exact h.c2, by rw [bm_up_ne (by omega)]; exact h.c3, by rw [bm_up_ne (by omega)]; exact h.c4, by rw [bm_up_ne (by omega)]; exact h.c5, by rw [bm_up_ne (by omega)]; exact h.c6, by rw [bm_up_ne (by omega)]; exact h.c7, by rw [bm_up_ne (by omega)]; exact h.c8, by rw [bm_up_ne (by omega)]; exact h.c9, by rw [bm_up_ne (by omega)]; exact h.c10, by rw [bm_up_ne (by omega)]; exact h.c11, by rw [bm_up_ne (by omega)]; exact h.c12, by rw [bm_up_ne (by omega)]; exact h.c13, bm_up_self _ _ _, by rw [bm_up_ne (by omega)]; exact h.c15, by rw [bm_up_ne (by omega)]; exact h.c16, by rw [bm_up_ne (by omega)]; exact h.c17⟩
theorem bm_MD.s15 {ct : Nat → ClassId} {m : Nat} {th : Int32} {tr : Int32} {bl : Int64} {np : Int32} {nd : Int32} {f1 : Nat → Int32} {f2 : Nat → Int32} {f3 : Nat → Int32} {f4 : Nat → Int32} {g5 : Nat → Int64} {g6 : Nat → Int64} {f7 : Nat → Int32} {g8 : Nat → Int64} {g9 : Nat → Int64} {g10 : Nat → Int64} {g11 : Nat → Int64} {g12 : Nat → Int64} {g13 : Nat → Int64} {g14 : Nat → Int64} {g15 : Nat → Int64} {f16 : Nat → Int32} {g17 : Nat → Int64} {M : bm_Map} (h : bm_MD ct m th tr bl np nd f1 f2 f3 f4 g5 g6 f7 g8 g9 g10 g11 g12 g13 g14 g15 f16 g17 M) (x : Nat → Int64) : bm_MD ct m th tr bl np nd f1 f2 f3 f4 g5 g6 f7 g8 g9 g10 g11 g12 g13 g14 x f16 g17 (bm_up M (m + 15) (.inl (ct 1, 6, .inr (.inl x)))) := ⟨by rw [bm_up_ne (by omega)]; exact h.c0, by rw [bm_up_ne (by omega)]; exact h.c1, by rw [bm_up_ne (by omega)]; exact h.c2, by rw [bm_up_ne (by omega)]; exact h.c3, by rw [bm_up_ne (by omega)]; exact h.c4, by rw [bm_up_ne (by omega)]; exact h.c5, by rw [bm_up_ne (by omega)]; exact h.c6, by rw [bm_up_ne (by omega)]; exact h.c7, by rw [bm_up_ne (by omega)]; exact h.c8, by rw [bm_up_ne (by omega)]; exact h.c9, by rw [bm_up_ne (by omega)]; exact h.c10, by rw [bm_up_ne (by omega)]; exact h.c11, by rw [bm_up_ne (by omega)]; exact h.c12, by rw [bm_up_ne (by omega)]; exact h.c13, by rw [bm_up_ne (by omega)]; exact h.c14, bm_up_self _ _ _, by rw [bm_up_ne (by omega)]; exact h.c16, by rw [bm_up_ne (by omega)]; exact h.c17⟩
theorem bm_MD.s16 {ct : Nat → ClassId} {m : Nat} {th : Int32} {tr : Int32} {bl : Int64} {np : Int32} {nd : Int32} {f1 : Nat → Int32} {f2 : Nat → Int32} {f3 : Nat → Int32} {f4 : Nat → Int32} {g5 : Nat → Int64} {g6 : Nat → Int64} {f7 : Nat → Int32} {g8 : Nat → Int64} {g9 : Nat → Int64} {g10 : Nat → Int64} {g11 : Nat → Int64} {g12 : Nat → Int64} {g13 : Nat → Int64} {g14 : Nat → Int64} {g15 : Nat → Int64} {f16 : Nat → Int32} {g17 : Nat → Int64} {M : bm_Map} (h : bm_MD ct m th tr bl np nd f1 f2 f3 f4 g5 g6 f7 g8 g9 g10 g11 g12 g13 g14 g15 f16 g17 M) (x : Nat → Int32) : bm_MD ct m th tr bl np nd f1 f2 f3 f4 g5 g6 f7 g8 g9 g10 g11 g12 g13 g14 g15 x g17 (bm_up M (m + 16) (.inl (ct 2, 6, .inl x))) := ⟨by rw [bm_up_ne (by omega)]; exact h.c0, by rw [bm_up_ne (by omega)]; exact h.c1, by rw [bm_up_ne (by omega)]; exact h.c2, by rw [bm_up_ne (by omega)]; exact h.c3, by rw [bm_up_ne (by omega)]; exact h.c4, by rw [bm_up_ne (by omega)]; exact h.c5, by rw [bm_up_ne (by omega)]; exact h.c6, by rw [bm_up_ne (by omega)]; exact h.c7, by rw [bm_up_ne (by omega)]; exact h.c8, by rw [bm_up_ne (by omega)]; exact h.c9, by rw [bm_up_ne (by omega)]; exact h.c10, by rw [bm_up_ne (by omega)]; exact h.c11, by rw [bm_up_ne (by omega)]; exact h.c12, by rw [bm_up_ne (by omega)]; exact h.c13, by rw [bm_up_ne (by omega)]; exact h.c14, by rw [bm_up_ne (by omega)]; exact h.c15, bm_up_self _ _ _, by rw [bm_up_ne (by omega)]; exact h.c17⟩
theorem bm_MD.s17 {ct : Nat → ClassId} {m : Nat} {th : Int32} {tr : Int32} {bl : Int64} {np : Int32} {nd : Int32} {f1 : Nat → Int32} {f2 : Nat → Int32} {f3 : Nat → Int32} {f4 : Nat → Int32} {g5 : Nat → Int64} {g6 : Nat → Int64} {f7 : Nat → Int32} {g8 : Nat → Int64} {g9 : Nat → Int64} {g10 : Nat → Int64} {g11 : Nat → Int64} {g12 : Nat → Int64} {g13 : Nat → Int64} {g14 : Nat → Int64} {g15 : Nat → Int64} {f16 : Nat → Int32} {g17 : Nat → Int64} {M : bm_Map} (h : bm_MD ct m th tr bl np nd f1 f2 f3 f4 g5 g6 f7 g8 g9 g10 g11 g12 g13 g14 g15 f16 g17 M) (x : Nat → Int64) : bm_MD ct m th tr bl np nd f1 f2 f3 f4 g5 g6 f7 g8 g9 g10 g11 g12 g13 g14 g15 f16 x (bm_up M (m + 17) (.inl (ct 1, 4, .inr (.inl x)))) := ⟨by rw [bm_up_ne (by omega)]; exact h.c0, by rw [bm_up_ne (by omega)]; exact h.c1, by rw [bm_up_ne (by omega)]; exact h.c2, by rw [bm_up_ne (by omega)]; exact h.c3, by rw [bm_up_ne (by omega)]; exact h.c4, by rw [bm_up_ne (by omega)]; exact h.c5, by rw [bm_up_ne (by omega)]; exact h.c6, by rw [bm_up_ne (by omega)]; exact h.c7, by rw [bm_up_ne (by omega)]; exact h.c8, by rw [bm_up_ne (by omega)]; exact h.c9, by rw [bm_up_ne (by omega)]; exact h.c10, by rw [bm_up_ne (by omega)]; exact h.c11, by rw [bm_up_ne (by omega)]; exact h.c12, by rw [bm_up_ne (by omega)]; exact h.c13, by rw [bm_up_ne (by omega)]; exact h.c14, by rw [bm_up_ne (by omega)]; exact h.c15, by rw [bm_up_ne (by omega)]; exact h.c16, bm_up_self _ _ _⟩
/-- nothing outside the reference's cells has changed -/
def bm_fr (m : Nat) (M M1 : bm_Map) : Prop := ∀ a, (a < m ∨ m + 18 ≤ a) → M1 a = M a
theorem bm_fr.rf {m : Nat} {M : bm_Map} : bm_fr m M M := fun _ _ => rfl
theorem bm_fr.tr {m : Nat} {M M1 M2 : bm_Map} (h : bm_fr m M M1) (h2 : bm_fr m M1 M2) : bm_fr m M M2 := fun a ha => (h2 a ha).trans (h a ha)
theorem bm_fr.up {m k : Nat} {M M1 : bm_Map} {e : va_E} (h : bm_fr m M M1) (hk : k < 18) : bm_fr m M (bm_up M1 (m + k) e) := fun a ha => (bm_up_ne (by omega)).trans (h a ha)
theorem bm_fr.up0 {m : Nat} {M M1 : bm_Map} {e : va_E} (h : bm_fr m M M1) : bm_fr m M (bm_up M1 m e) := fun a ha => (bm_up_ne (by omega)).trans (h a ha)
/-- a method of the reference: its answer and its new picture; nothing else has changed -/
def bm_Pm (m : Nat) (M : bm_Map) (sz : Nat) (C : Option Value → bm_Map → Prop) : Option Value → bm_Map → Nat → Prop := fun v M1 n => n = sz ∧ C v M1 ∧ bm_fr m M M1
end
section
set_option maxHeartbeats 4000000 in
set_option maxRecDepth 100000 in
theorem bc_M_thrown (l : Launch) (D : va_G) (ct : Nat → ClassId) (base : Nat) (ad : Nat → Nat) (M : bm_Map) (sz : Nat) (m : Nat) (th : Int32) (tr : Int32) (bl : Int64) (np : Int32) (nd : Int32) (f1 : Nat → Int32) (f2 : Nat → Int32) (f3 : Nat → Int32) (f4 : Nat → Int32) (g5 : Nat → Int64) (g6 : Nat → Int64) (f7 : Nat → Int32) (g8 : Nat → Int64) (g9 : Nat → Int64) (g10 : Nat → Int64) (g11 : Nat → Int64) (g12 : Nat → Int64) (g13 : Nat → Int64) (g14 : Nat → Int64) (g15 : Nat → Int64) (f16 : Nat → Int32) (g17 : Nat → Int64)  (hP : bm_MD ct m th tr bl np nd f1 f2 f3 f4 g5 g6 f7 g8 g9 g10 g11 g12 g13 g14 g15 f16 g17 M) : Met l yM_thrown (bm_ws yM_thrown cM_thrown 1 (some .int)) { frames := 0, cells := 0, slots := 0, locals := 0 } (bm_Pre D ct base ad M sz [.ref m]) (bm_Post D base (bm_Pm m M sz (fun v M1 => v = some (.int th) ∧ bm_MD ct m th tr bl np nd f1 f2 f3 f4 g5 g6 f7 g8 g9 g10 g11 g12 g13 g14 g15 f16 g17 M1))) 0 0 (bm_A base) := by
  refine bm_ofB (cc := cM_thrown) (maxL := 1) (ret := (some .int)) (by decide +kernel) (Nat.le_of_ble_eq_true rfl) ?_
  intro vp ve s vm args below meth vc hx hb hr hlk hts hown hml hnm ls hl hz hM hG R Q hR hQ
  have hown : s.vm.findClass "BlindMintModel" = some vm.cls := hown
  have hK := hG.K
  have hS : va_S (bm_A base) s.heap s.heap [] := va_S.rf
  have hl : lv_has ls 1 [(0, .ref m)] := hl
  have hF : bm_fr m M M := bm_fr.rf
  refine lv_aload_n hx hb dM_thrown_0 rfl (lv_at hl 0 rfl) ?_
  refine bm_get (ci := 7) (v := .int th) (C := "BlindMintModel") (T := bt_M) (N := 22) hx hb hts bu_M hown hK hM hP.c0 rfl 0 (by decide) (hts _ bw_602) (fun _ h9 => h9) rfl dM_thrown_1 ?_
  exact bm_iret hQ hx hb hr hlk hM hS ⟨hz, ⟨rfl, hP⟩, hF⟩ (Nat.le_refl _) (Nat.le_refl _) dM_thrown_4
set_option maxHeartbeats 4000000 in
set_option maxRecDepth 100000 in
theorem bc_M_fail (l : Launch) (D : va_G) (ct : Nat → ClassId) (base : Nat) (ad : Nat → Nat) (M : bm_Map) (sz : Nat) (m : Nat) (th : Int32) (tr : Int32) (bl : Int64) (np : Int32) (nd : Int32) (f1 : Nat → Int32) (f2 : Nat → Int32) (f3 : Nat → Int32) (f4 : Nat → Int32) (g5 : Nat → Int64) (g6 : Nat → Int64) (f7 : Nat → Int32) (g8 : Nat → Int64) (g9 : Nat → Int64) (g10 : Nat → Int64) (g11 : Nat → Int64) (g12 : Nat → Int64) (g13 : Nat → Int64) (g14 : Nat → Int64) (g15 : Nat → Int64) (f16 : Nat → Int32) (g17 : Nat → Int64) (x : Int32) (hP : bm_MD ct m th tr bl np nd f1 f2 f3 f4 g5 g6 f7 g8 g9 g10 g11 g12 g13 g14 g15 f16 g17 M) : Met l yM_fail (bm_ws yM_fail cM_fail 2 (some .int)) { frames := 0, cells := 0, slots := 0, locals := 0 } (bm_Pre D ct base ad M sz [.ref m, .int x]) (bm_Post D base (bm_Pm m M sz (fun v M1 => v = some (.int 0) ∧ bm_MD ct m x tr bl np nd f1 f2 f3 f4 g5 g6 f7 g8 g9 g10 g11 g12 g13 g14 g15 f16 g17 M1))) 0 0 (bm_A base) := by
  refine bm_ofB (cc := cM_fail) (maxL := 2) (ret := (some .int)) (by decide +kernel) (Nat.le_of_ble_eq_true rfl) ?_
  intro vp ve s vm args below meth vc hx hb hr hlk hts hown hml hnm ls hl hz hM hG R Q hR hQ
  have hown : s.vm.findClass "BlindMintModel" = some vm.cls := hown
  have hK := hG.K
  have hS : va_S (bm_A base) s.heap s.heap [] := va_S.rf
  have hl : lv_has ls 2 [(0, .ref m), (1, .int x)] := hl
  have hF : bm_fr m M M := bm_fr.rf
  refine lv_aload_n hx hb dM_fail_0 rfl (lv_at hl 0 rfl) ?_
  refine lv_iload_n hx hb dM_fail_1 rfl (lv_at hl 1 rfl) ?_
  refine bm_put (ci := 7) (v := .int x) (ty := .int) (C := "BlindMintModel") (T := bt_M) (N := 22) hx hb hts bu_M by_M bo_M bn_M hown hK hM hS hP.c0 rfl 0 (by decide) (hts _ bw_602) (fun _ h9 => h9) rfl (by decide +kernel) rfl rfl (Nat.le_of_ble_eq_true rfl) dM_fail_2 (fun H locs hz1 hM hS => ?_)
  have hz := hz1.trans hz
  obtain ⟨M1, hM, hP, hF⟩ : ∃ X, bm_M D base X H ∧ bm_MD ct m x tr bl np nd f1 f2 f3 f4 g5 g6 f7 g8 g9 g10 g11 g12 g13 g14 g15 f16 g17 X ∧ bm_fr m M X := ⟨_, hM, hP.s_th _, hF.up0⟩
  refine lv_iconst (v := 0) hx hb dM_fail_5 (by decide) ?_
  exact bm_iret hQ hx hb hr hlk hM hS ⟨hz, ⟨rfl, hP⟩, hF⟩ (Nat.le_refl _) (Nat.le_refl _) dM_fail_6
set_option maxHeartbeats 4000000 in
set_option maxRecDepth 100000 in
theorem bc_M_traced (l : Launch) (D : va_G) (ct : Nat → ClassId) (base : Nat) (ad : Nat → Nat) (M : bm_Map) (sz : Nat) (m : Nat) (th : Int32) (tr : Int32) (bl : Int64) (np : Int32) (nd : Int32) (f1 : Nat → Int32) (f2 : Nat → Int32) (f3 : Nat → Int32) (f4 : Nat → Int32) (g5 : Nat → Int64) (g6 : Nat → Int64) (f7 : Nat → Int32) (g8 : Nat → Int64) (g9 : Nat → Int64) (g10 : Nat → Int64) (g11 : Nat → Int64) (g12 : Nat → Int64) (g13 : Nat → Int64) (g14 : Nat → Int64) (g15 : Nat → Int64) (f16 : Nat → Int32) (g17 : Nat → Int64)  (hP : bm_MD ct m th tr bl np nd f1 f2 f3 f4 g5 g6 f7 g8 g9 g10 g11 g12 g13 g14 g15 f16 g17 M) : Met l yM_traced (bm_ws yM_traced cM_traced 1 (some .int)) { frames := 0, cells := 0, slots := 0, locals := 0 } (bm_Pre D ct base ad M sz [.ref m]) (bm_Post D base (bm_Pm m M sz (fun v M1 => v = some (.int tr) ∧ bm_MD ct m 0 tr bl np nd f1 f2 f3 f4 g5 g6 f7 g8 g9 g10 g11 g12 g13 g14 g15 f16 g17 M1))) 0 0 (bm_A base) := by
  refine bm_ofB (cc := cM_traced) (maxL := 1) (ret := (some .int)) (by decide +kernel) (Nat.le_of_ble_eq_true rfl) ?_
  intro vp ve s vm args below meth vc hx hb hr hlk hts hown hml hnm ls hl hz hM hG R Q hR hQ
  have hown : s.vm.findClass "BlindMintModel" = some vm.cls := hown
  have hK := hG.K
  have hS : va_S (bm_A base) s.heap s.heap [] := va_S.rf
  have hl : lv_has ls 1 [(0, .ref m)] := hl
  have hF : bm_fr m M M := bm_fr.rf
  refine lv_aload_n hx hb dM_traced_0 rfl (lv_at hl 0 rfl) ?_
  refine lv_iconst (v := 0) hx hb dM_traced_1 (by decide) ?_
  refine bm_put (ci := 7) (v := .int 0) (ty := .int) (C := "BlindMintModel") (T := bt_M) (N := 22) hx hb hts bu_M by_M bo_M bn_M hown hK hM hS hP.c0 rfl 0 (by decide) (hts _ bw_602) (fun _ h9 => h9) rfl (by decide +kernel) rfl rfl (Nat.le_of_ble_eq_true rfl) dM_traced_2 (fun H locs hz1 hM hS => ?_)
  have hz := hz1.trans hz
  obtain ⟨M1, hM, hP, hF⟩ : ∃ X, bm_M D base X H ∧ bm_MD ct m 0 tr bl np nd f1 f2 f3 f4 g5 g6 f7 g8 g9 g10 g11 g12 g13 g14 g15 f16 g17 X ∧ bm_fr m M X := ⟨_, hM, hP.s_th _, hF.up0⟩
  refine lv_aload_n hx hb dM_traced_5 rfl (lv_at hl 0 rfl) ?_
  refine bm_get (ci := 7) (v := .int tr) (C := "BlindMintModel") (T := bt_M) (N := 22) hx hb hts bu_M hown hK hM hP.c0 rfl 3 (by decide) (hts _ bw_605) (fun _ h9 => h9) rfl dM_traced_6 ?_
  exact bm_iret hQ hx hb hr hlk hM hS ⟨hz, ⟨rfl, hP⟩, hF⟩ (Nat.le_refl _) (Nat.le_refl _) dM_traced_9
set_option maxHeartbeats 4000000 in
set_option maxRecDepth 100000 in
theorem bc_M_blinded (l : Launch) (D : va_G) (ct : Nat → ClassId) (base : Nat) (ad : Nat → Nat) (M : bm_Map) (sz : Nat) (m : Nat) (th : Int32) (tr : Int32) (bl : Int64) (np : Int32) (nd : Int32) (f1 : Nat → Int32) (f2 : Nat → Int32) (f3 : Nat → Int32) (f4 : Nat → Int32) (g5 : Nat → Int64) (g6 : Nat → Int64) (f7 : Nat → Int32) (g8 : Nat → Int64) (g9 : Nat → Int64) (g10 : Nat → Int64) (g11 : Nat → Int64) (g12 : Nat → Int64) (g13 : Nat → Int64) (g14 : Nat → Int64) (g15 : Nat → Int64) (f16 : Nat → Int32) (g17 : Nat → Int64)  (hP : bm_MD ct m th tr bl np nd f1 f2 f3 f4 g5 g6 f7 g8 g9 g10 g11 g12 g13 g14 g15 f16 g17 M) : Met l yM_blinded (bm_ws yM_blinded cM_blinded 1 (some .long)) { frames := 0, cells := 0, slots := 0, locals := 0 } (bm_Pre D ct base ad M sz [.ref m]) (bm_Post D base (bm_Pm m M sz (fun v M1 => v = some (.long bl) ∧ bm_MD ct m 0 tr bl np nd f1 f2 f3 f4 g5 g6 f7 g8 g9 g10 g11 g12 g13 g14 g15 f16 g17 M1))) 0 0 (bm_A base) := by
  refine bm_ofB (cc := cM_blinded) (maxL := 1) (ret := (some .long)) (by decide +kernel) (Nat.le_of_ble_eq_true rfl) ?_
  intro vp ve s vm args below meth vc hx hb hr hlk hts hown hml hnm ls hl hz hM hG R Q hR hQ
  have hown : s.vm.findClass "BlindMintModel" = some vm.cls := hown
  have hK := hG.K
  have hS : va_S (bm_A base) s.heap s.heap [] := va_S.rf
  have hl : lv_has ls 1 [(0, .ref m)] := hl
  have hF : bm_fr m M M := bm_fr.rf
  refine lv_aload_n hx hb dM_blinded_0 rfl (lv_at hl 0 rfl) ?_
  refine lv_iconst (v := 0) hx hb dM_blinded_1 (by decide) ?_
  refine bm_put (ci := 7) (v := .int 0) (ty := .int) (C := "BlindMintModel") (T := bt_M) (N := 22) hx hb hts bu_M by_M bo_M bn_M hown hK hM hS hP.c0 rfl 0 (by decide) (hts _ bw_602) (fun _ h9 => h9) rfl (by decide +kernel) rfl rfl (Nat.le_of_ble_eq_true rfl) dM_blinded_2 (fun H locs hz1 hM hS => ?_)
  have hz := hz1.trans hz
  obtain ⟨M1, hM, hP, hF⟩ : ∃ X, bm_M D base X H ∧ bm_MD ct m 0 tr bl np nd f1 f2 f3 f4 g5 g6 f7 g8 g9 g10 g11 g12 g13 g14 g15 f16 g17 X ∧ bm_fr m M X := ⟨_, hM, hP.s_th _, hF.up0⟩
  refine lv_aload_n hx hb dM_blinded_5 rfl (lv_at hl 0 rfl) ?_
  refine bm_get (ci := 7) (v := .long bl) (C := "BlindMintModel") (T := bt_M) (N := 22) hx hb hts bu_M hown hK hM hP.c0 rfl 4 (by decide) (hts _ bw_606) (fun _ h9 => h9) rfl dM_blinded_6 ?_
  exact bm_lret hQ hx hb hr hlk hM hS ⟨hz, ⟨rfl, hP⟩, hF⟩ (Nat.le_refl _) (Nat.le_refl _) dM_blinded_9
end
section
theorem bm_ixm {c j i : Nat} (h : c * j + i < 2 ^ 31) : bm_ix (nI c * nI j + nI i) (c * j + i) := by
  rw [pk_mul, nI_add]
  exact bm_ix_nI h
theorem bm_all6 {P : Nat → Prop} (h0 : P 0) (h1 : P 1) (h2 : P 2) (h3 : P 3) (h4 : P 4) (h5 : P 5) : ∀ j, j < 6 → P j := fun j hj =>
  match j, hj with
  | 0, _ => h0
  | 1, _ => h1
  | 2, _ => h2
  | 3, _ => h3
  | 4, _ => h4
  | 5, _ => h5
theorem bm_all4 {P : Nat → Prop} (h0 : P 0) (h1 : P 1) (h2 : P 2) (h3 : P 3) : ∀ j, j < 4 → P j := fun j hj =>
  match j, hj with
  | 0, _ => h0
  | 1, _ => h1
  | 2, _ => h2
  | 3, _ => h3
/-- a candidate's numbers -/
def bm_ca (seed : Int64) (j : Nat) : Int64 := bm_h2 seed (lN (3 * j))
def bm_cc (seed : Int64) (j : Nat) : Int64 := bm_h2 seed (lN (3 * j + 1))
def bm_ce (seed : Int64) (j : Nat) : Int64 := bm_h2 seed (lN (3 * j + 2))
def bm_chb (ch : Int32) (j : Nat) : Int32 := (ch >>> (nI j &&& 31)) &&& 1
def bm_cb (seed : Int64) (a : Nat) (ch : Int32) (j : Nat) : Int64 := (bm_ca seed j ^^^ lN (1000 + a)) ^^^ (bm_chb ch j).toInt64
def bm_cp (seed : Int64) (a : Nat) (ch : Int32) (j : Nat) : Int64 := bm_h2 (bm_h2 (bm_ca seed j) (bm_cc seed j)) (bm_h2 (bm_cb seed a ch j) (bm_ce seed j))
def bm_tt (pr : Nat → Int64) : Int64 := bm_end (bm_step (bm_step (bm_step (bm_step (bm_step (bm_step 7 (pr 0)) (pr 1)) (pr 2)) (pr 3)) (pr 4)) (pr 5))
def bm_o1 (n : Nat) : Nat := n % 6
def bm_o2 (n : Nat) : Nat := (n % 6 + 1 + n / 6 % 5) % 6
/-- a payment's challenge -/
def bm_ch (r : Nat → Int64) (p : Nat) : Int64 := bm_h3 (r (16 * p + 2)) (r (16 * p + 3)) (r (16 * p + 1))
end
section
set_option maxHeartbeats 4000000 in
set_option maxRecDepth 100000 in
theorem bc_M_balance_n (l : Launch) (D : va_G) (ct : Nat → ClassId) (base : Nat) (ad : Nat → Nat) (M : bm_Map) (sz : Nat) (m : Nat) (th : Int32) (tr : Int32) (bl : Int64) (np : Int32) (nd : Int32) (f1 : Nat → Int32) (f2 : Nat → Int32) (f3 : Nat → Int32) (f4 : Nat → Int32) (g5 : Nat → Int64) (g6 : Nat → Int64) (f7 : Nat → Int32) (g8 : Nat → Int64) (g9 : Nat → Int64) (g10 : Nat → Int64) (g11 : Nat → Int64) (g12 : Nat → Int64) (g13 : Nat → Int64) (g14 : Nat → Int64) (g15 : Nat → Int64) (f16 : Nat → Int32) (g17 : Nat → Int64) (v : Int32) (hP : bm_MD ct m th tr bl np nd f1 f2 f3 f4 g5 g6 f7 g8 g9 g10 g11 g12 g13 g14 g15 f16 g17 M) (hv : bm_bl v 4 = 0) : Met l yM_balance (bm_ws yM_balance cM_balance 2 (some .int)) { frames := 1, cells := 0, slots := 0, locals := 21 } (bm_Pre D ct base ad M sz [.ref m, .int v]) (bm_Post D base (bm_Pm m M sz (fun v M1 => v = some (.int 0) ∧ bm_MD ct m 1 tr bl np nd f1 f2 f3 f4 g5 g6 f7 g8 g9 g10 g11 g12 g13 g14 g15 f16 g17 M1))) 0 0 (bm_A base) := by
  refine bm_ofB (cc := cM_balance) (maxL := 2) (ret := (some .int)) (by decide +kernel) (Nat.le_of_ble_eq_true rfl) ?_
  intro vp ve s vm args below meth vc hx hb hr hlk hts hown hml hnm ls hl hz hM hG R Q hR hQ
  have hown : s.vm.findClass "BlindMintModel" = some vm.cls := hown
  have hK := hG.K
  have hS : va_S (bm_A base) s.heap s.heap [] := va_S.rf
  have hl : lv_has ls 2 [(0, .ref m), (1, .int v)] := hl
  have hF : bm_fr m M M := bm_fr.rf
  refine lv_aload_n hx hb dM_balance_0 rfl (lv_at hl 0 rfl) ?_
  refine lv_iconst (v := 0) hx hb dM_balance_1 (by decide) ?_
  refine bm_put (ci := 7) (v := .int 0) (ty := .int) (C := "BlindMintModel") (T := bt_M) (N := 22) hx hb hts bu_M by_M bo_M bn_M hown hK hM hS hP.c0 rfl 0 (by decide) (hts _ bw_602) (fun _ h9 => h9) rfl (by decide +kernel) rfl rfl (Nat.le_of_ble_eq_true rfl) dM_balance_2 (fun H locs hz1 hM hS => ?_)
  have hz := hz1.trans hz
  obtain ⟨M1, hM, hP, hF⟩ : ∃ X, bm_M D base X H ∧ bm_MD ct m 0 tr bl np nd f1 f2 f3 f4 g5 g6 f7 g8 g9 g10 g11 g12 g13 g14 g15 f16 g17 X ∧ bm_fr m M X := ⟨_, hM, hP.s_th _, hF.up0⟩
  refine lv_iload_n hx hb dM_balance_5 rfl (lv_at hl 1 rfl) ?_
  refine lv_iconst (v := 4) hx hb dM_balance_6 (by decide) ?_
  refine bm_callE (va_runS (As := [.int v, .int 4]) (rest := []) ⟨hx, hb, hml, hown, hts⟩ (bc_M_below l D ct base ad M1 sz v 4) (va_cwS 2 hts (bm_goodS bw_679 bw_680 bw_5 bw_681) rfl rfl rfl (by decide +kernel) (by rw [← hR]; exact ⟨Nat.le_of_ble_eq_true rfl, Nat.le_of_ble_eq_true rfl⟩)) (bm_preS hM hG hS hz) rfl rfl hl.1 rfl (lv_room (Nat.le_of_ble_eq_true rfl)) dM_balance_7 (by rw [← hR]; exact ⟨Nat.le_of_ble_eq_true rfl, Nat.le_of_ble_eq_true rfl⟩)) hS (fun H locs hz hM hS => ?_)
  refine lv_if_eq (tgt := 22) hx hb dM_balance_10 rfl (fun h10 => ?_) (fun h10 => absurd hv h10)
  refine lv_aload_n hx hb dM_balance_22 rfl (lv_at hl 0 rfl) ?_
  refine lv_iconst (v := 1) hx hb dM_balance_23 (by decide) ?_
  refine bm_call (va_runV (As := [.int 1]) (rest := []) ⟨hx, hb, hml, hown, hts⟩ (bc_M_fail l D ct base ad M1 sz m 0 tr bl np nd f1 f2 f3 f4 g5 g6 f7 g8 g9 g10 g11 g12 g13 g14 g15 f16 g17 1 hP) (cwV 1 hts (bm_goodV bw_682 bw_684 bs_10 bw_5 bw_685) rfl rfl rfl (by decide +kernel) (by rw [← hR]; exact ⟨Nat.le_of_ble_eq_true rfl, Nat.le_of_ble_eq_true rfl⟩)) (bm_preV hM hG hS hz hP.c0 rfl) rfl rfl hl.1 rfl (lv_room (Nat.le_of_ble_eq_true rfl)) dM_balance_24 (by rw [← hR]; exact ⟨Nat.le_of_ble_eq_true rfl, Nat.le_of_ble_eq_true rfl⟩)) hS (fun v9 M2 H locs hq hM hS _ => ?_)
  obtain ⟨hz, ⟨rfl, hP⟩, hF9⟩ := hq
  have hF := hF.tr hF9
  exact bm_iret hQ hx hb hr hlk hM hS ⟨hz, ⟨rfl, hP⟩, hF⟩ (Nat.le_refl _) (Nat.le_refl _) dM_balance_27
set_option maxHeartbeats 4000000 in
set_option maxRecDepth 100000 in
theorem bc_M_balance_ok (l : Launch) (D : va_G) (ct : Nat → ClassId) (base : Nat) (ad : Nat → Nat) (M : bm_Map) (sz : Nat) (m : Nat) (th : Int32) (tr : Int32) (bl : Int64) (np : Int32) (nd : Int32) (f1 : Nat → Int32) (f2 : Nat → Int32) (f3 : Nat → Int32) (f4 : Nat → Int32) (g5 : Nat → Int64) (g6 : Nat → Int64) (f7 : Nat → Int32) (g8 : Nat → Int64) (g9 : Nat → Int64) (g10 : Nat → Int64) (g11 : Nat → Int64) (g12 : Nat → Int64) (g13 : Nat → Int64) (g14 : Nat → Int64) (g15 : Nat → Int64) (f16 : Nat → Int32) (g17 : Nat → Int64) (j : Nat) (hP : bm_MD ct m th tr bl np nd f1 f2 f3 f4 g5 g6 f7 g8 g9 g10 g11 g12 g13 g14 g15 f16 g17 M) (hj : j < 4) : Met l yM_balance (bm_ws yM_balance cM_balance 2 (some .int)) { frames := 1, cells := 0, slots := 0, locals := 21 } (bm_Pre D ct base ad M sz [.ref m, .int (nI j)]) (bm_Post D base (bm_Pm m M sz (fun v M1 => v = some (.int (f1 j)) ∧ bm_MD ct m 0 tr bl np nd f1 f2 f3 f4 g5 g6 f7 g8 g9 g10 g11 g12 g13 g14 g15 f16 g17 M1))) 0 0 (bm_A base) := by
  refine bm_ofB (cc := cM_balance) (maxL := 2) (ret := (some .int)) (by decide +kernel) (Nat.le_of_ble_eq_true rfl) ?_
  intro vp ve s vm args below meth vc hx hb hr hlk hts hown hml hnm ls hl hz hM hG R Q hR hQ
  have hown : s.vm.findClass "BlindMintModel" = some vm.cls := hown
  have hK := hG.K
  have hS : va_S (bm_A base) s.heap s.heap [] := va_S.rf
  have hl : lv_has ls 2 [(0, .ref m), (1, .int (nI j))] := hl
  have hF : bm_fr m M M := bm_fr.rf
  refine lv_aload_n hx hb dM_balance_0 rfl (lv_at hl 0 rfl) ?_
  refine lv_iconst (v := 0) hx hb dM_balance_1 (by decide) ?_
  refine bm_put (ci := 7) (v := .int 0) (ty := .int) (C := "BlindMintModel") (T := bt_M) (N := 22) hx hb hts bu_M by_M bo_M bn_M hown hK hM hS hP.c0 rfl 0 (by decide) (hts _ bw_602) (fun _ h9 => h9) rfl (by decide +kernel) rfl rfl (Nat.le_of_ble_eq_true rfl) dM_balance_2 (fun H locs hz1 hM hS => ?_)
  have hz := hz1.trans hz
  obtain ⟨M1, hM, hP, hF⟩ : ∃ X, bm_M D base X H ∧ bm_MD ct m 0 tr bl np nd f1 f2 f3 f4 g5 g6 f7 g8 g9 g10 g11 g12 g13 g14 g15 f16 g17 X ∧ bm_fr m M X := ⟨_, hM, hP.s_th _, hF.up0⟩
  refine lv_iload_n hx hb dM_balance_5 rfl (lv_at hl 1 rfl) ?_
  refine lv_iconst (v := 4) hx hb dM_balance_6 (by decide) ?_
  refine bm_callE (va_runS (As := [.int (nI j), .int 4]) (rest := []) ⟨hx, hb, hml, hown, hts⟩ (bc_M_below l D ct base ad M1 sz (nI j) 4) (va_cwS 2 hts (bm_goodS bw_679 bw_680 bw_5 bw_681) rfl rfl rfl (by decide +kernel) (by rw [← hR]; exact ⟨Nat.le_of_ble_eq_true rfl, Nat.le_of_ble_eq_true rfl⟩)) (bm_preS hM hG hS hz) rfl rfl hl.1 rfl (lv_room (Nat.le_of_ble_eq_true rfl)) dM_balance_7 (by rw [← hR]; exact ⟨Nat.le_of_ble_eq_true rfl, Nat.le_of_ble_eq_true rfl⟩)) hS (fun H locs hz hM hS => ?_)
  refine lv_if_eq (tgt := 22) hx hb dM_balance_10 rfl (fun h10 => absurd h10 (by rw [show bm_bl (nI j) 4 = 1 from (bm_bl_nI (N := 4) hj (by decide))]; decide)) (fun h10 => ?_)
  refine lv_aload_n hx hb dM_balance_13 rfl (lv_at hl 0 rfl) ?_
  refine bm_get (ci := 7) (v := .ref (m + 1)) (C := "BlindMintModel") (T := bt_M) (N := 22) hx hb hts bu_M hown hK hM hP.c0 rfl 1 (by decide) (hts _ bw_603) (fun _ h9 => h9) rfl dM_balance_14 ?_
  refine lv_iload_n hx hb dM_balance_17 rfl (lv_at hl 1 rfl) ?_
  refine bm_iald hx hb hK hM 0 hP.c1 rfl j (bm_ix_nI (by omega)) (by omega) dM_balance_18 ?_
  refine lv_goto (tgt := 27) hx hb dM_balance_19 rfl ?_
  exact bm_iret hQ hx hb hr hlk hM hS ⟨hz, ⟨rfl, hP⟩, hF⟩ (Nat.le_refl _) (Nat.le_refl _) dM_balance_27
set_option maxHeartbeats 4000000 in
set_option maxRecDepth 100000 in
theorem bc_M_coins_n (l : Launch) (D : va_G) (ct : Nat → ClassId) (base : Nat) (ad : Nat → Nat) (M : bm_Map) (sz : Nat) (m : Nat) (th : Int32) (tr : Int32) (bl : Int64) (np : Int32) (nd : Int32) (f1 : Nat → Int32) (f2 : Nat → Int32) (f3 : Nat → Int32) (f4 : Nat → Int32) (g5 : Nat → Int64) (g6 : Nat → Int64) (f7 : Nat → Int32) (g8 : Nat → Int64) (g9 : Nat → Int64) (g10 : Nat → Int64) (g11 : Nat → Int64) (g12 : Nat → Int64) (g13 : Nat → Int64) (g14 : Nat → Int64) (g15 : Nat → Int64) (f16 : Nat → Int32) (g17 : Nat → Int64) (v : Int32) (hP : bm_MD ct m th tr bl np nd f1 f2 f3 f4 g5 g6 f7 g8 g9 g10 g11 g12 g13 g14 g15 f16 g17 M) (hv : bm_bl v 4 = 0) : Met l yM_coins (bm_ws yM_coins cM_coins 2 (some .int)) { frames := 1, cells := 0, slots := 0, locals := 21 } (bm_Pre D ct base ad M sz [.ref m, .int v]) (bm_Post D base (bm_Pm m M sz (fun v M1 => v = some (.int (-1)) ∧ bm_MD ct m 0 tr bl np nd f1 f2 f3 f4 g5 g6 f7 g8 g9 g10 g11 g12 g13 g14 g15 f16 g17 M1))) 0 0 (bm_A base) := by
  refine bm_ofB (cc := cM_coins) (maxL := 2) (ret := (some .int)) (by decide +kernel) (Nat.le_of_ble_eq_true rfl) ?_
  intro vp ve s vm args below meth vc hx hb hr hlk hts hown hml hnm ls hl hz hM hG R Q hR hQ
  have hown : s.vm.findClass "BlindMintModel" = some vm.cls := hown
  have hK := hG.K
  have hS : va_S (bm_A base) s.heap s.heap [] := va_S.rf
  have hl : lv_has ls 2 [(0, .ref m), (1, .int v)] := hl
  have hF : bm_fr m M M := bm_fr.rf
  refine lv_aload_n hx hb dM_coins_0 rfl (lv_at hl 0 rfl) ?_
  refine lv_iconst (v := 0) hx hb dM_coins_1 (by decide) ?_
  refine bm_put (ci := 7) (v := .int 0) (ty := .int) (C := "BlindMintModel") (T := bt_M) (N := 22) hx hb hts bu_M by_M bo_M bn_M hown hK hM hS hP.c0 rfl 0 (by decide) (hts _ bw_602) (fun _ h9 => h9) rfl (by decide +kernel) rfl rfl (Nat.le_of_ble_eq_true rfl) dM_coins_2 (fun H locs hz1 hM hS => ?_)
  have hz := hz1.trans hz
  obtain ⟨M1, hM, hP, hF⟩ : ∃ X, bm_M D base X H ∧ bm_MD ct m 0 tr bl np nd f1 f2 f3 f4 g5 g6 f7 g8 g9 g10 g11 g12 g13 g14 g15 f16 g17 X ∧ bm_fr m M X := ⟨_, hM, hP.s_th _, hF.up0⟩
  refine lv_iload_n hx hb dM_coins_5 rfl (lv_at hl 1 rfl) ?_
  refine lv_iconst (v := 4) hx hb dM_coins_6 (by decide) ?_
  refine bm_callE (va_runS (As := [.int v, .int 4]) (rest := []) ⟨hx, hb, hml, hown, hts⟩ (bc_M_below l D ct base ad M1 sz v 4) (va_cwS 2 hts (bm_goodS bw_679 bw_680 bw_5 bw_681) rfl rfl rfl (by decide +kernel) (by rw [← hR]; exact ⟨Nat.le_of_ble_eq_true rfl, Nat.le_of_ble_eq_true rfl⟩)) (bm_preS hM hG hS hz) rfl rfl hl.1 rfl (lv_room (Nat.le_of_ble_eq_true rfl)) dM_coins_7 (by rw [← hR]; exact ⟨Nat.le_of_ble_eq_true rfl, Nat.le_of_ble_eq_true rfl⟩)) hS (fun H locs hz hM hS => ?_)
  refine lv_if_eq (tgt := 22) hx hb dM_coins_10 rfl (fun h10 => ?_) (fun h10 => absurd hv h10)
  refine lv_iconst (v := (-1)) hx hb dM_coins_22 (by decide) ?_
  exact bm_iret hQ hx hb hr hlk hM hS ⟨hz, ⟨rfl, hP⟩, hF⟩ (Nat.le_refl _) (Nat.le_refl _) dM_coins_23
set_option maxHeartbeats 4000000 in
set_option maxRecDepth 100000 in
theorem bc_M_coins_ok (l : Launch) (D : va_G) (ct : Nat → ClassId) (base : Nat) (ad : Nat → Nat) (M : bm_Map) (sz : Nat) (m : Nat) (th : Int32) (tr : Int32) (bl : Int64) (np : Int32) (nd : Int32) (f1 : Nat → Int32) (f2 : Nat → Int32) (f3 : Nat → Int32) (f4 : Nat → Int32) (g5 : Nat → Int64) (g6 : Nat → Int64) (f7 : Nat → Int32) (g8 : Nat → Int64) (g9 : Nat → Int64) (g10 : Nat → Int64) (g11 : Nat → Int64) (g12 : Nat → Int64) (g13 : Nat → Int64) (g14 : Nat → Int64) (g15 : Nat → Int64) (f16 : Nat → Int32) (g17 : Nat → Int64) (j : Nat) (hP : bm_MD ct m th tr bl np nd f1 f2 f3 f4 g5 g6 f7 g8 g9 g10 g11 g12 g13 g14 g15 f16 g17 M) (hj : j < 4) : Met l yM_coins (bm_ws yM_coins cM_coins 2 (some .int)) { frames := 1, cells := 0, slots := 0, locals := 21 } (bm_Pre D ct base ad M sz [.ref m, .int (nI j)]) (bm_Post D base (bm_Pm m M sz (fun v M1 => v = some (.int (f3 j)) ∧ bm_MD ct m 0 tr bl np nd f1 f2 f3 f4 g5 g6 f7 g8 g9 g10 g11 g12 g13 g14 g15 f16 g17 M1))) 0 0 (bm_A base) := by
  refine bm_ofB (cc := cM_coins) (maxL := 2) (ret := (some .int)) (by decide +kernel) (Nat.le_of_ble_eq_true rfl) ?_
  intro vp ve s vm args below meth vc hx hb hr hlk hts hown hml hnm ls hl hz hM hG R Q hR hQ
  have hown : s.vm.findClass "BlindMintModel" = some vm.cls := hown
  have hK := hG.K
  have hS : va_S (bm_A base) s.heap s.heap [] := va_S.rf
  have hl : lv_has ls 2 [(0, .ref m), (1, .int (nI j))] := hl
  have hF : bm_fr m M M := bm_fr.rf
  refine lv_aload_n hx hb dM_coins_0 rfl (lv_at hl 0 rfl) ?_
  refine lv_iconst (v := 0) hx hb dM_coins_1 (by decide) ?_
  refine bm_put (ci := 7) (v := .int 0) (ty := .int) (C := "BlindMintModel") (T := bt_M) (N := 22) hx hb hts bu_M by_M bo_M bn_M hown hK hM hS hP.c0 rfl 0 (by decide) (hts _ bw_602) (fun _ h9 => h9) rfl (by decide +kernel) rfl rfl (Nat.le_of_ble_eq_true rfl) dM_coins_2 (fun H locs hz1 hM hS => ?_)
  have hz := hz1.trans hz
  obtain ⟨M1, hM, hP, hF⟩ : ∃ X, bm_M D base X H ∧ bm_MD ct m 0 tr bl np nd f1 f2 f3 f4 g5 g6 f7 g8 g9 g10 g11 g12 g13 g14 g15 f16 g17 X ∧ bm_fr m M X := ⟨_, hM, hP.s_th _, hF.up0⟩
  refine lv_iload_n hx hb dM_coins_5 rfl (lv_at hl 1 rfl) ?_
  refine lv_iconst (v := 4) hx hb dM_coins_6 (by decide) ?_
  refine bm_callE (va_runS (As := [.int (nI j), .int 4]) (rest := []) ⟨hx, hb, hml, hown, hts⟩ (bc_M_below l D ct base ad M1 sz (nI j) 4) (va_cwS 2 hts (bm_goodS bw_679 bw_680 bw_5 bw_681) rfl rfl rfl (by decide +kernel) (by rw [← hR]; exact ⟨Nat.le_of_ble_eq_true rfl, Nat.le_of_ble_eq_true rfl⟩)) (bm_preS hM hG hS hz) rfl rfl hl.1 rfl (lv_room (Nat.le_of_ble_eq_true rfl)) dM_coins_7 (by rw [← hR]; exact ⟨Nat.le_of_ble_eq_true rfl, Nat.le_of_ble_eq_true rfl⟩)) hS (fun H locs hz hM hS => ?_)
  refine lv_if_eq (tgt := 22) hx hb dM_coins_10 rfl (fun h10 => absurd h10 (by rw [show bm_bl (nI j) 4 = 1 from (bm_bl_nI (N := 4) hj (by decide))]; decide)) (fun h10 => ?_)
  refine lv_aload_n hx hb dM_coins_13 rfl (lv_at hl 0 rfl) ?_
  refine bm_get (ci := 7) (v := .ref (m + 3)) (C := "BlindMintModel") (T := bt_M) (N := 22) hx hb hts bu_M hown hK hM hP.c0 rfl 5 (by decide) (hts _ bw_607) (fun _ h9 => h9) rfl dM_coins_14 ?_
  refine lv_iload_n hx hb dM_coins_17 rfl (lv_at hl 1 rfl) ?_
  refine bm_iald hx hb hK hM 0 hP.c3 rfl j (bm_ix_nI (by omega)) (by omega) dM_coins_18 ?_
  refine lv_goto (tgt := 23) hx hb dM_coins_19 rfl ?_
  exact bm_iret hQ hx hb hr hlk hM hS ⟨hz, ⟨rfl, hP⟩, hF⟩ (Nat.le_refl _) (Nat.le_refl _) dM_coins_23
set_option maxHeartbeats 4000000 in
set_option maxRecDepth 100000 in
theorem bc_M_count_n (l : Launch) (D : va_G) (ct : Nat → ClassId) (base : Nat) (ad : Nat → Nat) (M : bm_Map) (sz : Nat) (m : Nat) (th : Int32) (tr : Int32) (bl : Int64) (np : Int32) (nd : Int32) (f1 : Nat → Int32) (f2 : Nat → Int32) (f3 : Nat → Int32) (f4 : Nat → Int32) (g5 : Nat → Int64) (g6 : Nat → Int64) (f7 : Nat → Int32) (g8 : Nat → Int64) (g9 : Nat → Int64) (g10 : Nat → Int64) (g11 : Nat → Int64) (g12 : Nat → Int64) (g13 : Nat → Int64) (g14 : Nat → Int64) (g15 : Nat → Int64) (f16 : Nat → Int32) (g17 : Nat → Int64) (v : Int32) (hP : bm_MD ct m th tr bl np nd f1 f2 f3 f4 g5 g6 f7 g8 g9 g10 g11 g12 g13 g14 g15 f16 g17 M) (hv : bm_bl v 4 = 0) : Met l yM_count (bm_ws yM_count cM_count 2 (some .int)) { frames := 1, cells := 0, slots := 0, locals := 21 } (bm_Pre D ct base ad M sz [.ref m, .int v]) (bm_Post D base (bm_Pm m M sz (fun v M1 => v = some (.int (-1)) ∧ bm_MD ct m 0 tr bl np nd f1 f2 f3 f4 g5 g6 f7 g8 g9 g10 g11 g12 g13 g14 g15 f16 g17 M1))) 0 0 (bm_A base) := by
  refine bm_ofB (cc := cM_count) (maxL := 2) (ret := (some .int)) (by decide +kernel) (Nat.le_of_ble_eq_true rfl) ?_
  intro vp ve s vm args below meth vc hx hb hr hlk hts hown hml hnm ls hl hz hM hG R Q hR hQ
  have hown : s.vm.findClass "BlindMintModel" = some vm.cls := hown
  have hK := hG.K
  have hS : va_S (bm_A base) s.heap s.heap [] := va_S.rf
  have hl : lv_has ls 2 [(0, .ref m), (1, .int v)] := hl
  have hF : bm_fr m M M := bm_fr.rf
  refine lv_aload_n hx hb dM_count_0 rfl (lv_at hl 0 rfl) ?_
  refine lv_iconst (v := 0) hx hb dM_count_1 (by decide) ?_
  refine bm_put (ci := 7) (v := .int 0) (ty := .int) (C := "BlindMintModel") (T := bt_M) (N := 22) hx hb hts bu_M by_M bo_M bn_M hown hK hM hS hP.c0 rfl 0 (by decide) (hts _ bw_602) (fun _ h9 => h9) rfl (by decide +kernel) rfl rfl (Nat.le_of_ble_eq_true rfl) dM_count_2 (fun H locs hz1 hM hS => ?_)
  have hz := hz1.trans hz
  obtain ⟨M1, hM, hP, hF⟩ : ∃ X, bm_M D base X H ∧ bm_MD ct m 0 tr bl np nd f1 f2 f3 f4 g5 g6 f7 g8 g9 g10 g11 g12 g13 g14 g15 f16 g17 X ∧ bm_fr m M X := ⟨_, hM, hP.s_th _, hF.up0⟩
  refine lv_iload_n hx hb dM_count_5 rfl (lv_at hl 1 rfl) ?_
  refine lv_iconst (v := 4) hx hb dM_count_6 (by decide) ?_
  refine bm_callE (va_runS (As := [.int v, .int 4]) (rest := []) ⟨hx, hb, hml, hown, hts⟩ (bc_M_below l D ct base ad M1 sz v 4) (va_cwS 2 hts (bm_goodS bw_679 bw_680 bw_5 bw_681) rfl rfl rfl (by decide +kernel) (by rw [← hR]; exact ⟨Nat.le_of_ble_eq_true rfl, Nat.le_of_ble_eq_true rfl⟩)) (bm_preS hM hG hS hz) rfl rfl hl.1 rfl (lv_room (Nat.le_of_ble_eq_true rfl)) dM_count_7 (by rw [← hR]; exact ⟨Nat.le_of_ble_eq_true rfl, Nat.le_of_ble_eq_true rfl⟩)) hS (fun H locs hz hM hS => ?_)
  refine lv_if_eq (tgt := 22) hx hb dM_count_10 rfl (fun h10 => ?_) (fun h10 => absurd hv h10)
  refine lv_iconst (v := (-1)) hx hb dM_count_22 (by decide) ?_
  exact bm_iret hQ hx hb hr hlk hM hS ⟨hz, ⟨rfl, hP⟩, hF⟩ (Nat.le_refl _) (Nat.le_refl _) dM_count_23
set_option maxHeartbeats 4000000 in
set_option maxRecDepth 100000 in
theorem bc_M_count_ok (l : Launch) (D : va_G) (ct : Nat → ClassId) (base : Nat) (ad : Nat → Nat) (M : bm_Map) (sz : Nat) (m : Nat) (th : Int32) (tr : Int32) (bl : Int64) (np : Int32) (nd : Int32) (f1 : Nat → Int32) (f2 : Nat → Int32) (f3 : Nat → Int32) (f4 : Nat → Int32) (g5 : Nat → Int64) (g6 : Nat → Int64) (f7 : Nat → Int32) (g8 : Nat → Int64) (g9 : Nat → Int64) (g10 : Nat → Int64) (g11 : Nat → Int64) (g12 : Nat → Int64) (g13 : Nat → Int64) (g14 : Nat → Int64) (g15 : Nat → Int64) (f16 : Nat → Int32) (g17 : Nat → Int64) (j : Nat) (hP : bm_MD ct m th tr bl np nd f1 f2 f3 f4 g5 g6 f7 g8 g9 g10 g11 g12 g13 g14 g15 f16 g17 M) (hj : j < 4) : Met l yM_count (bm_ws yM_count cM_count 2 (some .int)) { frames := 1, cells := 0, slots := 0, locals := 21 } (bm_Pre D ct base ad M sz [.ref m, .int (nI j)]) (bm_Post D base (bm_Pm m M sz (fun v M1 => v = some (.int (f2 j)) ∧ bm_MD ct m 0 tr bl np nd f1 f2 f3 f4 g5 g6 f7 g8 g9 g10 g11 g12 g13 g14 g15 f16 g17 M1))) 0 0 (bm_A base) := by
  refine bm_ofB (cc := cM_count) (maxL := 2) (ret := (some .int)) (by decide +kernel) (Nat.le_of_ble_eq_true rfl) ?_
  intro vp ve s vm args below meth vc hx hb hr hlk hts hown hml hnm ls hl hz hM hG R Q hR hQ
  have hown : s.vm.findClass "BlindMintModel" = some vm.cls := hown
  have hK := hG.K
  have hS : va_S (bm_A base) s.heap s.heap [] := va_S.rf
  have hl : lv_has ls 2 [(0, .ref m), (1, .int (nI j))] := hl
  have hF : bm_fr m M M := bm_fr.rf
  refine lv_aload_n hx hb dM_count_0 rfl (lv_at hl 0 rfl) ?_
  refine lv_iconst (v := 0) hx hb dM_count_1 (by decide) ?_
  refine bm_put (ci := 7) (v := .int 0) (ty := .int) (C := "BlindMintModel") (T := bt_M) (N := 22) hx hb hts bu_M by_M bo_M bn_M hown hK hM hS hP.c0 rfl 0 (by decide) (hts _ bw_602) (fun _ h9 => h9) rfl (by decide +kernel) rfl rfl (Nat.le_of_ble_eq_true rfl) dM_count_2 (fun H locs hz1 hM hS => ?_)
  have hz := hz1.trans hz
  obtain ⟨M1, hM, hP, hF⟩ : ∃ X, bm_M D base X H ∧ bm_MD ct m 0 tr bl np nd f1 f2 f3 f4 g5 g6 f7 g8 g9 g10 g11 g12 g13 g14 g15 f16 g17 X ∧ bm_fr m M X := ⟨_, hM, hP.s_th _, hF.up0⟩
  refine lv_iload_n hx hb dM_count_5 rfl (lv_at hl 1 rfl) ?_
  refine lv_iconst (v := 4) hx hb dM_count_6 (by decide) ?_
  refine bm_callE (va_runS (As := [.int (nI j), .int 4]) (rest := []) ⟨hx, hb, hml, hown, hts⟩ (bc_M_below l D ct base ad M1 sz (nI j) 4) (va_cwS 2 hts (bm_goodS bw_679 bw_680 bw_5 bw_681) rfl rfl rfl (by decide +kernel) (by rw [← hR]; exact ⟨Nat.le_of_ble_eq_true rfl, Nat.le_of_ble_eq_true rfl⟩)) (bm_preS hM hG hS hz) rfl rfl hl.1 rfl (lv_room (Nat.le_of_ble_eq_true rfl)) dM_count_7 (by rw [← hR]; exact ⟨Nat.le_of_ble_eq_true rfl, Nat.le_of_ble_eq_true rfl⟩)) hS (fun H locs hz hM hS => ?_)
  refine lv_if_eq (tgt := 22) hx hb dM_count_10 rfl (fun h10 => absurd h10 (by rw [show bm_bl (nI j) 4 = 1 from (bm_bl_nI (N := 4) hj (by decide))]; decide)) (fun h10 => ?_)
  refine lv_aload_n hx hb dM_count_13 rfl (lv_at hl 0 rfl) ?_
  refine bm_get (ci := 7) (v := .ref (m + 2)) (C := "BlindMintModel") (T := bt_M) (N := 22) hx hb hts bu_M hown hK hM hP.c0 rfl 2 (by decide) (hts _ bw_604) (fun _ h9 => h9) rfl dM_count_14 ?_
  refine lv_iload_n hx hb dM_count_17 rfl (lv_at hl 1 rfl) ?_
  refine bm_iald hx hb hK hM 0 hP.c2 rfl j (bm_ix_nI (by omega)) (by omega) dM_count_18 ?_
  refine lv_goto (tgt := 23) hx hb dM_count_19 rfl ?_
  exact bm_iret hQ hx hb hr hlk hM hS ⟨hz, ⟨rfl, hP⟩, hF⟩ (Nat.le_refl _) (Nat.le_refl _) dM_count_23
set_option maxHeartbeats 4000000 in
set_option maxRecDepth 100000 in
theorem bc_M_noCoin_n1 (l : Launch) (D : va_G) (ct : Nat → ClassId) (base : Nat) (ad : Nat → Nat) (M : bm_Map) (sz : Nat) (m : Nat) (th : Int32) (tr : Int32) (bl : Int64) (np : Int32) (nd : Int32) (f1 : Nat → Int32) (f2 : Nat → Int32) (f3 : Nat → Int32) (f4 : Nat → Int32) (g5 : Nat → Int64) (g6 : Nat → Int64) (f7 : Nat → Int32) (g8 : Nat → Int64) (g9 : Nat → Int64) (g10 : Nat → Int64) (g11 : Nat → Int64) (g12 : Nat → Int64) (g13 : Nat → Int64) (g14 : Nat → Int64) (g15 : Nat → Int64) (f16 : Nat → Int32) (g17 : Nat → Int64) (v w : Int32) (hP : bm_MD ct m th tr bl np nd f1 f2 f3 f4 g5 g6 f7 g8 g9 g10 g11 g12 g13 g14 g15 f16 g17 M) (hv : bm_bl v 4 = 0) : Met l yM_noCoin (bm_ws yM_noCoin cM_noCoin 3 (some .boolean)) { frames := 1, cells := 0, slots := 0, locals := 21 } (bm_Pre D ct base ad M sz [.ref m, .int v, .int w]) (bm_Post D base (bm_Pm m M sz (fun v M1 => v = some (.int 1) ∧ bm_MD ct m th tr bl np nd f1 f2 f3 f4 g5 g6 f7 g8 g9 g10 g11 g12 g13 g14 g15 f16 g17 M1))) 0 0 (bm_A base) := by
  refine bm_ofB (cc := cM_noCoin) (maxL := 3) (ret := (some .boolean)) (by decide +kernel) (Nat.le_of_ble_eq_true rfl) ?_
  intro vp ve s vm args below meth vc hx hb hr hlk hts hown hml hnm ls hl hz hM hG R Q hR hQ
  have hown : s.vm.findClass "BlindMintModel" = some vm.cls := hown
  have hK := hG.K
  have hS : va_S (bm_A base) s.heap s.heap [] := va_S.rf
  have hl : lv_has ls 3 [(0, .ref m), (1, .int v), (2, .int w)] := hl
  have hF : bm_fr m M M := bm_fr.rf
  refine lv_iload_n hx hb dM_noCoin_0 rfl (lv_at hl 1 rfl) ?_
  refine lv_iconst (v := 4) hx hb dM_noCoin_1 (by decide) ?_
  refine bm_callE (va_runS (As := [.int v, .int 4]) (rest := []) ⟨hx, hb, hml, hown, hts⟩ (bc_M_below l D ct base ad M sz v 4) (va_cwS 2 hts (bm_goodS bw_679 bw_680 bw_5 bw_681) rfl rfl rfl (by decide +kernel) (by rw [← hR]; exact ⟨Nat.le_of_ble_eq_true rfl, Nat.le_of_ble_eq_true rfl⟩)) (bm_preS hM hG hS hz) rfl rfl hl.1 rfl (lv_room (Nat.le_of_ble_eq_true rfl)) dM_noCoin_2 (by rw [← hR]; exact ⟨Nat.le_of_ble_eq_true rfl, Nat.le_of_ble_eq_true rfl⟩)) hS (fun H locs hz hM hS => ?_)
  refine lv_if_eq (tgt := 21) hx hb dM_noCoin_5 rfl (fun h5 => ?_) (fun h5 => absurd hv h5)
  refine lv_iconst (v := 1) hx hb dM_noCoin_21 (by decide) ?_
  refine lv_goto (tgt := 26) hx hb dM_noCoin_22 rfl ?_
  exact bm_zret hQ hx hb hr hlk (by decide) hM hS ⟨hz, ⟨rfl, hP⟩, hF⟩ (Nat.le_refl _) (Nat.le_refl _) dM_noCoin_26
set_option maxHeartbeats 4000000 in
set_option maxRecDepth 100000 in
theorem bc_M_noCoin_n2 (l : Launch) (D : va_G) (ct : Nat → ClassId) (base : Nat) (ad : Nat → Nat) (M : bm_Map) (sz : Nat) (m : Nat) (th : Int32) (tr : Int32) (bl : Int64) (np : Int32) (nd : Int32) (f1 : Nat → Int32) (f2 : Nat → Int32) (f3 : Nat → Int32) (f4 : Nat → Int32) (g5 : Nat → Int64) (g6 : Nat → Int64) (f7 : Nat → Int32) (g8 : Nat → Int64) (g9 : Nat → Int64) (g10 : Nat → Int64) (g11 : Nat → Int64) (g12 : Nat → Int64) (g13 : Nat → Int64) (g14 : Nat → Int64) (g15 : Nat → Int64) (f16 : Nat → Int32) (g17 : Nat → Int64) (j : Nat) (w : Int32) (hP : bm_MD ct m th tr bl np nd f1 f2 f3 f4 g5 g6 f7 g8 g9 g10 g11 g12 g13 g14 g15 f16 g17 M) (hj : j < 4) (hw : bm_bl w (f3 j) = 0) : Met l yM_noCoin (bm_ws yM_noCoin cM_noCoin 3 (some .boolean)) { frames := 1, cells := 0, slots := 0, locals := 21 } (bm_Pre D ct base ad M sz [.ref m, .int (nI j), .int w]) (bm_Post D base (bm_Pm m M sz (fun v M1 => v = some (.int 1) ∧ bm_MD ct m th tr bl np nd f1 f2 f3 f4 g5 g6 f7 g8 g9 g10 g11 g12 g13 g14 g15 f16 g17 M1))) 0 0 (bm_A base) := by
  refine bm_ofB (cc := cM_noCoin) (maxL := 3) (ret := (some .boolean)) (by decide +kernel) (Nat.le_of_ble_eq_true rfl) ?_
  intro vp ve s vm args below meth vc hx hb hr hlk hts hown hml hnm ls hl hz hM hG R Q hR hQ
  have hown : s.vm.findClass "BlindMintModel" = some vm.cls := hown
  have hK := hG.K
  have hS : va_S (bm_A base) s.heap s.heap [] := va_S.rf
  have hl : lv_has ls 3 [(0, .ref m), (1, .int (nI j)), (2, .int w)] := hl
  have hF : bm_fr m M M := bm_fr.rf
  refine lv_iload_n hx hb dM_noCoin_0 rfl (lv_at hl 1 rfl) ?_
  refine lv_iconst (v := 4) hx hb dM_noCoin_1 (by decide) ?_
  refine bm_callE (va_runS (As := [.int (nI j), .int 4]) (rest := []) ⟨hx, hb, hml, hown, hts⟩ (bc_M_below l D ct base ad M sz (nI j) 4) (va_cwS 2 hts (bm_goodS bw_679 bw_680 bw_5 bw_681) rfl rfl rfl (by decide +kernel) (by rw [← hR]; exact ⟨Nat.le_of_ble_eq_true rfl, Nat.le_of_ble_eq_true rfl⟩)) (bm_preS hM hG hS hz) rfl rfl hl.1 rfl (lv_room (Nat.le_of_ble_eq_true rfl)) dM_noCoin_2 (by rw [← hR]; exact ⟨Nat.le_of_ble_eq_true rfl, Nat.le_of_ble_eq_true rfl⟩)) hS (fun H locs hz hM hS => ?_)
  refine lv_if_eq (tgt := 21) hx hb dM_noCoin_5 rfl (fun h5 => absurd h5 (by rw [show bm_bl (nI j) 4 = 1 from (bm_bl_nI (N := 4) hj (by decide))]; decide)) (fun h5 => ?_)
  refine lv_iload_n hx hb dM_noCoin_8 rfl (lv_at hl 2 rfl) ?_
  refine lv_aload_n hx hb dM_noCoin_9 rfl (lv_at hl 0 rfl) ?_
  refine bm_get (ci := 7) (v := .ref (m + 3)) (C := "BlindMintModel") (T := bt_M) (N := 22) hx hb hts bu_M hown hK hM hP.c0 rfl 5 (by decide) (hts _ bw_607) (fun _ h9 => h9) rfl dM_noCoin_10 ?_
  refine lv_iload_n hx hb dM_noCoin_13 rfl (lv_at hl 1 rfl) ?_
  refine bm_iald hx hb hK hM 0 hP.c3 rfl j (bm_ix_nI (by omega)) (by omega) dM_noCoin_14 ?_
  refine bm_callE (va_runS (As := [.int w, .int (f3 j)]) (rest := []) ⟨hx, hb, hml, hown, hts⟩ (bc_M_below l D ct base ad M sz w (f3 j)) (va_cwS 2 hts (bm_goodS bw_679 bw_680 bw_5 bw_681) rfl rfl rfl (by decide +kernel) (by rw [← hR]; exact ⟨Nat.le_of_ble_eq_true rfl, Nat.le_of_ble_eq_true rfl⟩)) (bm_preS hM hG hS hz) rfl rfl hl.1 rfl (lv_room (Nat.le_of_ble_eq_true rfl)) dM_noCoin_15 (by rw [← hR]; exact ⟨Nat.le_of_ble_eq_true rfl, Nat.le_of_ble_eq_true rfl⟩)) hS (fun H locs hz hM hS => ?_)
  refine lv_if_ne (tgt := 25) hx hb dM_noCoin_18 rfl (fun h18 => absurd hw h18) (fun h18 => ?_)
  refine lv_iconst (v := 1) hx hb dM_noCoin_21 (by decide) ?_
  refine lv_goto (tgt := 26) hx hb dM_noCoin_22 rfl ?_
  exact bm_zret hQ hx hb hr hlk (by decide) hM hS ⟨hz, ⟨rfl, hP⟩, hF⟩ (Nat.le_refl _) (Nat.le_refl _) dM_noCoin_26
set_option maxHeartbeats 4000000 in
set_option maxRecDepth 100000 in
theorem bc_M_noCoin_ok (l : Launch) (D : va_G) (ct : Nat → ClassId) (base : Nat) (ad : Nat → Nat) (M : bm_Map) (sz : Nat) (m : Nat) (th : Int32) (tr : Int32) (bl : Int64) (np : Int32) (nd : Int32) (f1 : Nat → Int32) (f2 : Nat → Int32) (f3 : Nat → Int32) (f4 : Nat → Int32) (g5 : Nat → Int64) (g6 : Nat → Int64) (f7 : Nat → Int32) (g8 : Nat → Int64) (g9 : Nat → Int64) (g10 : Nat → Int64) (g11 : Nat → Int64) (g12 : Nat → Int64) (g13 : Nat → Int64) (g14 : Nat → Int64) (g15 : Nat → Int64) (f16 : Nat → Int32) (g17 : Nat → Int64) (j i : Nat) (hP : bm_MD ct m th tr bl np nd f1 f2 f3 f4 g5 g6 f7 g8 g9 g10 g11 g12 g13 g14 g15 f16 g17 M) (hj : j < 4) (hi : i < 8) (hw : bm_bl (nI i) (f3 j) = 1) : Met l yM_noCoin (bm_ws yM_noCoin cM_noCoin 3 (some .boolean)) { frames := 1, cells := 0, slots := 0, locals := 21 } (bm_Pre D ct base ad M sz [.ref m, .int (nI j), .int (nI i)]) (bm_Post D base (bm_Pm m M sz (fun v M1 => v = some (.int 0) ∧ bm_MD ct m th tr bl np nd f1 f2 f3 f4 g5 g6 f7 g8 g9 g10 g11 g12 g13 g14 g15 f16 g17 M1))) 0 0 (bm_A base) := by
  refine bm_ofB (cc := cM_noCoin) (maxL := 3) (ret := (some .boolean)) (by decide +kernel) (Nat.le_of_ble_eq_true rfl) ?_
  intro vp ve s vm args below meth vc hx hb hr hlk hts hown hml hnm ls hl hz hM hG R Q hR hQ
  have hown : s.vm.findClass "BlindMintModel" = some vm.cls := hown
  have hK := hG.K
  have hS : va_S (bm_A base) s.heap s.heap [] := va_S.rf
  have hl : lv_has ls 3 [(0, .ref m), (1, .int (nI j)), (2, .int (nI i))] := hl
  have hF : bm_fr m M M := bm_fr.rf
  refine lv_iload_n hx hb dM_noCoin_0 rfl (lv_at hl 1 rfl) ?_
  refine lv_iconst (v := 4) hx hb dM_noCoin_1 (by decide) ?_
  refine bm_callE (va_runS (As := [.int (nI j), .int 4]) (rest := []) ⟨hx, hb, hml, hown, hts⟩ (bc_M_below l D ct base ad M sz (nI j) 4) (va_cwS 2 hts (bm_goodS bw_679 bw_680 bw_5 bw_681) rfl rfl rfl (by decide +kernel) (by rw [← hR]; exact ⟨Nat.le_of_ble_eq_true rfl, Nat.le_of_ble_eq_true rfl⟩)) (bm_preS hM hG hS hz) rfl rfl hl.1 rfl (lv_room (Nat.le_of_ble_eq_true rfl)) dM_noCoin_2 (by rw [← hR]; exact ⟨Nat.le_of_ble_eq_true rfl, Nat.le_of_ble_eq_true rfl⟩)) hS (fun H locs hz hM hS => ?_)
  refine lv_if_eq (tgt := 21) hx hb dM_noCoin_5 rfl (fun h5 => absurd h5 (by rw [show bm_bl (nI j) 4 = 1 from (bm_bl_nI (N := 4) hj (by decide))]; decide)) (fun h5 => ?_)
  refine lv_iload_n hx hb dM_noCoin_8 rfl (lv_at hl 2 rfl) ?_
  refine lv_aload_n hx hb dM_noCoin_9 rfl (lv_at hl 0 rfl) ?_
  refine bm_get (ci := 7) (v := .ref (m + 3)) (C := "BlindMintModel") (T := bt_M) (N := 22) hx hb hts bu_M hown hK hM hP.c0 rfl 5 (by decide) (hts _ bw_607) (fun _ h9 => h9) rfl dM_noCoin_10 ?_
  refine lv_iload_n hx hb dM_noCoin_13 rfl (lv_at hl 1 rfl) ?_
  refine bm_iald hx hb hK hM 0 hP.c3 rfl j (bm_ix_nI (by omega)) (by omega) dM_noCoin_14 ?_
  refine bm_callE (va_runS (As := [.int (nI i), .int (f3 j)]) (rest := []) ⟨hx, hb, hml, hown, hts⟩ (bc_M_below l D ct base ad M sz (nI i) (f3 j)) (va_cwS 2 hts (bm_goodS bw_679 bw_680 bw_5 bw_681) rfl rfl rfl (by decide +kernel) (by rw [← hR]; exact ⟨Nat.le_of_ble_eq_true rfl, Nat.le_of_ble_eq_true rfl⟩)) (bm_preS hM hG hS hz) rfl rfl hl.1 rfl (lv_room (Nat.le_of_ble_eq_true rfl)) dM_noCoin_15 (by rw [← hR]; exact ⟨Nat.le_of_ble_eq_true rfl, Nat.le_of_ble_eq_true rfl⟩)) hS (fun H locs hz hM hS => ?_)
  refine lv_if_ne (tgt := 25) hx hb dM_noCoin_18 rfl (fun h18 => ?_) (fun h18 => absurd h18 (by rw [hw]; decide))
  refine lv_iconst (v := 0) hx hb dM_noCoin_25 (by decide) ?_
  exact bm_zret hQ hx hb hr hlk (by decide) hM hS ⟨hz, ⟨rfl, hP⟩, hF⟩ (Nat.le_refl _) (Nat.le_refl _) dM_noCoin_26
set_option maxHeartbeats 4000000 in
set_option maxRecDepth 100000 in
theorem bc_M_coin_n1 (l : Launch) (D : va_G) (ct : Nat → ClassId) (base : Nat) (ad : Nat → Nat) (M : bm_Map) (sz : Nat) (m : Nat) (th : Int32) (tr : Int32) (bl : Int64) (np : Int32) (nd : Int32) (f1 : Nat → Int32) (f2 : Nat → Int32) (f3 : Nat → Int32) (f4 : Nat → Int32) (g5 : Nat → Int64) (g6 : Nat → Int64) (f7 : Nat → Int32) (g8 : Nat → Int64) (g9 : Nat → Int64) (g10 : Nat → Int64) (g11 : Nat → Int64) (g12 : Nat → Int64) (g13 : Nat → Int64) (g14 : Nat → Int64) (g15 : Nat → Int64) (f16 : Nat → Int32) (g17 : Nat → Int64) (v w : Int32) (hP : bm_MD ct m th tr bl np nd f1 f2 f3 f4 g5 g6 f7 g8 g9 g10 g11 g12 g13 g14 g15 f16 g17 M) (hv : bm_bl v 4 = 0) : Met l yM_coin (bm_ws yM_coin cM_coin 3 (some .long)) { frames := 2, cells := 0, slots := 0, locals := 43 } (bm_Pre D ct base ad M sz [.ref m, .int v, .int w]) (bm_Post D base (bm_Pm m M sz (fun v M1 => v = some (.long 0) ∧ bm_MD ct m 1 tr bl np nd f1 f2 f3 f4 g5 g6 f7 g8 g9 g10 g11 g12 g13 g14 g15 f16 g17 M1))) 0 0 (bm_A base) := by
  refine bm_ofB (cc := cM_coin) (maxL := 3) (ret := (some .long)) (by decide +kernel) (Nat.le_of_ble_eq_true rfl) ?_
  intro vp ve s vm args below meth vc hx hb hr hlk hts hown hml hnm ls hl hz hM hG R Q hR hQ
  have hown : s.vm.findClass "BlindMintModel" = some vm.cls := hown
  have hK := hG.K
  have hS : va_S (bm_A base) s.heap s.heap [] := va_S.rf
  have hl : lv_has ls 3 [(0, .ref m), (1, .int v), (2, .int w)] := hl
  have hF : bm_fr m M M := bm_fr.rf
  refine lv_aload_n hx hb dM_coin_0 rfl (lv_at hl 0 rfl) ?_
  refine lv_iconst (v := 0) hx hb dM_coin_1 (by decide) ?_
  refine bm_put (ci := 7) (v := .int 0) (ty := .int) (C := "BlindMintModel") (T := bt_M) (N := 22) hx hb hts bu_M by_M bo_M bn_M hown hK hM hS hP.c0 rfl 0 (by decide) (hts _ bw_602) (fun _ h9 => h9) rfl (by decide +kernel) rfl rfl (Nat.le_of_ble_eq_true rfl) dM_coin_2 (fun H locs hz1 hM hS => ?_)
  have hz := hz1.trans hz
  obtain ⟨M1, hM, hP, hF⟩ : ∃ X, bm_M D base X H ∧ bm_MD ct m 0 tr bl np nd f1 f2 f3 f4 g5 g6 f7 g8 g9 g10 g11 g12 g13 g14 g15 f16 g17 X ∧ bm_fr m M X := ⟨_, hM, hP.s_th _, hF.up0⟩
  refine lv_aload_n hx hb dM_coin_5 rfl (lv_at hl 0 rfl) ?_
  refine lv_iload_n hx hb dM_coin_6 rfl (lv_at hl 1 rfl) ?_
  refine lv_iload_n hx hb dM_coin_7 rfl (lv_at hl 2 rfl) ?_
  refine bm_call (va_runV (As := [.int v, .int w]) (rest := []) ⟨hx, hb, hml, hown, hts⟩ (bc_M_noCoin_n1 l D ct base ad M1 sz m 0 tr bl np nd f1 f2 f3 f4 g5 g6 f7 g8 g9 g10 g11 g12 g13 g14 g15 f16 g17 v w hP hv) (cwV 2 hts (bm_goodV bw_757 bw_759 bs_15 bw_5 bw_760) rfl rfl rfl (by decide +kernel) (by rw [← hR]; exact ⟨Nat.le_of_ble_eq_true rfl, Nat.le_of_ble_eq_true rfl⟩)) (bm_preV hM hG hS hz hP.c0 rfl) rfl rfl hl.1 rfl (lv_room (Nat.le_of_ble_eq_true rfl)) dM_coin_8 (by rw [← hR]; exact ⟨Nat.le_of_ble_eq_true rfl, Nat.le_of_ble_eq_true rfl⟩)) hS (fun v9 M2 H locs hq hM hS _ => ?_)
  obtain ⟨hz, ⟨rfl, hP⟩, hF9⟩ := hq
  have hF := hF.tr hF9
  refine lv_if_eq (tgt := 23) hx hb dM_coin_11 rfl (fun h => absurd h (by decide)) (fun _ => ?_)
  refine lv_aload_n hx hb dM_coin_14 rfl (lv_at hl 0 rfl) ?_
  refine lv_iconst (v := 1) hx hb dM_coin_15 (by decide) ?_
  refine bm_call (va_runV (As := [.int 1]) (rest := []) ⟨hx, hb, hml, hown, hts⟩ (bc_M_fail l D ct base ad M2 sz m 0 tr bl np nd f1 f2 f3 f4 g5 g6 f7 g8 g9 g10 g11 g12 g13 g14 g15 f16 g17 1 hP) (cwV 1 hts (bm_goodV bw_682 bw_684 bs_10 bw_5 bw_685) rfl rfl rfl (by decide +kernel) (by rw [← hR]; exact ⟨Nat.le_of_ble_eq_true rfl, Nat.le_of_ble_eq_true rfl⟩)) (bm_preV hM hG hS hz hP.c0 rfl) rfl rfl hl.1 rfl (lv_room (Nat.le_of_ble_eq_true rfl)) dM_coin_16 (by rw [← hR]; exact ⟨Nat.le_of_ble_eq_true rfl, Nat.le_of_ble_eq_true rfl⟩)) hS (fun v9 M3 H locs hq hM hS _ => ?_)
  obtain ⟨hz, ⟨rfl, hP⟩, hF9⟩ := hq
  have hF := hF.tr hF9
  refine lv_i2l (v := 0) hx hb dM_coin_19 (by decide) ?_
  refine lv_goto (tgt := 34) hx hb dM_coin_20 rfl ?_
  exact bm_lret hQ hx hb hr hlk hM hS ⟨hz, ⟨rfl, hP⟩, hF⟩ (Nat.le_refl _) (Nat.le_refl _) dM_coin_34
set_option maxHeartbeats 4000000 in
set_option maxRecDepth 100000 in
theorem bc_M_coin_n2 (l : Launch) (D : va_G) (ct : Nat → ClassId) (base : Nat) (ad : Nat → Nat) (M : bm_Map) (sz : Nat) (m : Nat) (th : Int32) (tr : Int32) (bl : Int64) (np : Int32) (nd : Int32) (f1 : Nat → Int32) (f2 : Nat → Int32) (f3 : Nat → Int32) (f4 : Nat → Int32) (g5 : Nat → Int64) (g6 : Nat → Int64) (f7 : Nat → Int32) (g8 : Nat → Int64) (g9 : Nat → Int64) (g10 : Nat → Int64) (g11 : Nat → Int64) (g12 : Nat → Int64) (g13 : Nat → Int64) (g14 : Nat → Int64) (g15 : Nat → Int64) (f16 : Nat → Int32) (g17 : Nat → Int64) (j : Nat) (w : Int32) (hP : bm_MD ct m th tr bl np nd f1 f2 f3 f4 g5 g6 f7 g8 g9 g10 g11 g12 g13 g14 g15 f16 g17 M) (hj : j < 4) (hw : bm_bl w (f3 j) = 0) : Met l yM_coin (bm_ws yM_coin cM_coin 3 (some .long)) { frames := 2, cells := 0, slots := 0, locals := 43 } (bm_Pre D ct base ad M sz [.ref m, .int (nI j), .int w]) (bm_Post D base (bm_Pm m M sz (fun v M1 => v = some (.long 0) ∧ bm_MD ct m 1 tr bl np nd f1 f2 f3 f4 g5 g6 f7 g8 g9 g10 g11 g12 g13 g14 g15 f16 g17 M1))) 0 0 (bm_A base) := by
  refine bm_ofB (cc := cM_coin) (maxL := 3) (ret := (some .long)) (by decide +kernel) (Nat.le_of_ble_eq_true rfl) ?_
  intro vp ve s vm args below meth vc hx hb hr hlk hts hown hml hnm ls hl hz hM hG R Q hR hQ
  have hown : s.vm.findClass "BlindMintModel" = some vm.cls := hown
  have hK := hG.K
  have hS : va_S (bm_A base) s.heap s.heap [] := va_S.rf
  have hl : lv_has ls 3 [(0, .ref m), (1, .int (nI j)), (2, .int w)] := hl
  have hF : bm_fr m M M := bm_fr.rf
  refine lv_aload_n hx hb dM_coin_0 rfl (lv_at hl 0 rfl) ?_
  refine lv_iconst (v := 0) hx hb dM_coin_1 (by decide) ?_
  refine bm_put (ci := 7) (v := .int 0) (ty := .int) (C := "BlindMintModel") (T := bt_M) (N := 22) hx hb hts bu_M by_M bo_M bn_M hown hK hM hS hP.c0 rfl 0 (by decide) (hts _ bw_602) (fun _ h9 => h9) rfl (by decide +kernel) rfl rfl (Nat.le_of_ble_eq_true rfl) dM_coin_2 (fun H locs hz1 hM hS => ?_)
  have hz := hz1.trans hz
  obtain ⟨M1, hM, hP, hF⟩ : ∃ X, bm_M D base X H ∧ bm_MD ct m 0 tr bl np nd f1 f2 f3 f4 g5 g6 f7 g8 g9 g10 g11 g12 g13 g14 g15 f16 g17 X ∧ bm_fr m M X := ⟨_, hM, hP.s_th _, hF.up0⟩
  refine lv_aload_n hx hb dM_coin_5 rfl (lv_at hl 0 rfl) ?_
  refine lv_iload_n hx hb dM_coin_6 rfl (lv_at hl 1 rfl) ?_
  refine lv_iload_n hx hb dM_coin_7 rfl (lv_at hl 2 rfl) ?_
  refine bm_call (va_runV (As := [.int (nI j), .int w]) (rest := []) ⟨hx, hb, hml, hown, hts⟩ (bc_M_noCoin_n2 l D ct base ad M1 sz m 0 tr bl np nd f1 f2 f3 f4 g5 g6 f7 g8 g9 g10 g11 g12 g13 g14 g15 f16 g17 j w hP hj hw) (cwV 2 hts (bm_goodV bw_757 bw_759 bs_15 bw_5 bw_760) rfl rfl rfl (by decide +kernel) (by rw [← hR]; exact ⟨Nat.le_of_ble_eq_true rfl, Nat.le_of_ble_eq_true rfl⟩)) (bm_preV hM hG hS hz hP.c0 rfl) rfl rfl hl.1 rfl (lv_room (Nat.le_of_ble_eq_true rfl)) dM_coin_8 (by rw [← hR]; exact ⟨Nat.le_of_ble_eq_true rfl, Nat.le_of_ble_eq_true rfl⟩)) hS (fun v9 M2 H locs hq hM hS _ => ?_)
  obtain ⟨hz, ⟨rfl, hP⟩, hF9⟩ := hq
  have hF := hF.tr hF9
  refine lv_if_eq (tgt := 23) hx hb dM_coin_11 rfl (fun h => absurd h (by decide)) (fun _ => ?_)
  refine lv_aload_n hx hb dM_coin_14 rfl (lv_at hl 0 rfl) ?_
  refine lv_iconst (v := 1) hx hb dM_coin_15 (by decide) ?_
  refine bm_call (va_runV (As := [.int 1]) (rest := []) ⟨hx, hb, hml, hown, hts⟩ (bc_M_fail l D ct base ad M2 sz m 0 tr bl np nd f1 f2 f3 f4 g5 g6 f7 g8 g9 g10 g11 g12 g13 g14 g15 f16 g17 1 hP) (cwV 1 hts (bm_goodV bw_682 bw_684 bs_10 bw_5 bw_685) rfl rfl rfl (by decide +kernel) (by rw [← hR]; exact ⟨Nat.le_of_ble_eq_true rfl, Nat.le_of_ble_eq_true rfl⟩)) (bm_preV hM hG hS hz hP.c0 rfl) rfl rfl hl.1 rfl (lv_room (Nat.le_of_ble_eq_true rfl)) dM_coin_16 (by rw [← hR]; exact ⟨Nat.le_of_ble_eq_true rfl, Nat.le_of_ble_eq_true rfl⟩)) hS (fun v9 M3 H locs hq hM hS _ => ?_)
  obtain ⟨hz, ⟨rfl, hP⟩, hF9⟩ := hq
  have hF := hF.tr hF9
  refine lv_i2l (v := 0) hx hb dM_coin_19 (by decide) ?_
  refine lv_goto (tgt := 34) hx hb dM_coin_20 rfl ?_
  exact bm_lret hQ hx hb hr hlk hM hS ⟨hz, ⟨rfl, hP⟩, hF⟩ (Nat.le_refl _) (Nat.le_refl _) dM_coin_34
set_option maxHeartbeats 4000000 in
set_option maxRecDepth 100000 in
theorem bc_M_coin_ok (l : Launch) (D : va_G) (ct : Nat → ClassId) (base : Nat) (ad : Nat → Nat) (M : bm_Map) (sz : Nat) (m : Nat) (th : Int32) (tr : Int32) (bl : Int64) (np : Int32) (nd : Int32) (f1 : Nat → Int32) (f2 : Nat → Int32) (f3 : Nat → Int32) (f4 : Nat → Int32) (g5 : Nat → Int64) (g6 : Nat → Int64) (f7 : Nat → Int32) (g8 : Nat → Int64) (g9 : Nat → Int64) (g10 : Nat → Int64) (g11 : Nat → Int64) (g12 : Nat → Int64) (g13 : Nat → Int64) (g14 : Nat → Int64) (g15 : Nat → Int64) (f16 : Nat → Int32) (g17 : Nat → Int64) (j i : Nat) (hP : bm_MD ct m th tr bl np nd f1 f2 f3 f4 g5 g6 f7 g8 g9 g10 g11 g12 g13 g14 g15 f16 g17 M) (hj : j < 4) (hi : i < 8) (hw : bm_bl (nI i) (f3 j) = 1) : Met l yM_coin (bm_ws yM_coin cM_coin 3 (some .long)) { frames := 2, cells := 0, slots := 0, locals := 43 } (bm_Pre D ct base ad M sz [.ref m, .int (nI j), .int (nI i)]) (bm_Post D base (bm_Pm m M sz (fun v M1 => v = some (.long (g5 (8 * j + i))) ∧ bm_MD ct m 0 tr bl np nd f1 f2 f3 f4 g5 g6 f7 g8 g9 g10 g11 g12 g13 g14 g15 f16 g17 M1))) 0 0 (bm_A base) := by
  refine bm_ofB (cc := cM_coin) (maxL := 3) (ret := (some .long)) (by decide +kernel) (Nat.le_of_ble_eq_true rfl) ?_
  intro vp ve s vm args below meth vc hx hb hr hlk hts hown hml hnm ls hl hz hM hG R Q hR hQ
  have hown : s.vm.findClass "BlindMintModel" = some vm.cls := hown
  have hK := hG.K
  have hS : va_S (bm_A base) s.heap s.heap [] := va_S.rf
  have hl : lv_has ls 3 [(0, .ref m), (1, .int (nI j)), (2, .int (nI i))] := hl
  have hF : bm_fr m M M := bm_fr.rf
  refine lv_aload_n hx hb dM_coin_0 rfl (lv_at hl 0 rfl) ?_
  refine lv_iconst (v := 0) hx hb dM_coin_1 (by decide) ?_
  refine bm_put (ci := 7) (v := .int 0) (ty := .int) (C := "BlindMintModel") (T := bt_M) (N := 22) hx hb hts bu_M by_M bo_M bn_M hown hK hM hS hP.c0 rfl 0 (by decide) (hts _ bw_602) (fun _ h9 => h9) rfl (by decide +kernel) rfl rfl (Nat.le_of_ble_eq_true rfl) dM_coin_2 (fun H locs hz1 hM hS => ?_)
  have hz := hz1.trans hz
  obtain ⟨M1, hM, hP, hF⟩ : ∃ X, bm_M D base X H ∧ bm_MD ct m 0 tr bl np nd f1 f2 f3 f4 g5 g6 f7 g8 g9 g10 g11 g12 g13 g14 g15 f16 g17 X ∧ bm_fr m M X := ⟨_, hM, hP.s_th _, hF.up0⟩
  refine lv_aload_n hx hb dM_coin_5 rfl (lv_at hl 0 rfl) ?_
  refine lv_iload_n hx hb dM_coin_6 rfl (lv_at hl 1 rfl) ?_
  refine lv_iload_n hx hb dM_coin_7 rfl (lv_at hl 2 rfl) ?_
  refine bm_call (va_runV (As := [.int (nI j), .int (nI i)]) (rest := []) ⟨hx, hb, hml, hown, hts⟩ (bc_M_noCoin_ok l D ct base ad M1 sz m 0 tr bl np nd f1 f2 f3 f4 g5 g6 f7 g8 g9 g10 g11 g12 g13 g14 g15 f16 g17 j i hP hj hi hw) (cwV 2 hts (bm_goodV bw_757 bw_759 bs_15 bw_5 bw_760) rfl rfl rfl (by decide +kernel) (by rw [← hR]; exact ⟨Nat.le_of_ble_eq_true rfl, Nat.le_of_ble_eq_true rfl⟩)) (bm_preV hM hG hS hz hP.c0 rfl) rfl rfl hl.1 rfl (lv_room (Nat.le_of_ble_eq_true rfl)) dM_coin_8 (by rw [← hR]; exact ⟨Nat.le_of_ble_eq_true rfl, Nat.le_of_ble_eq_true rfl⟩)) hS (fun v9 M2 H locs hq hM hS _ => ?_)
  obtain ⟨hz, ⟨rfl, hP⟩, hF9⟩ := hq
  have hF := hF.tr hF9
  refine lv_if_eq (tgt := 23) hx hb dM_coin_11 rfl (fun _ => ?_) (fun h => absurd h (by decide))
  refine lv_aload_n hx hb dM_coin_23 rfl (lv_at hl 0 rfl) ?_
  refine bm_get (ci := 7) (v := .ref (m + 5)) (C := "BlindMintModel") (T := bt_M) (N := 22) hx hb hts bu_M hown hK hM hP.c0 rfl 7 (by decide) (hts _ bw_609) (fun _ h9 => h9) rfl dM_coin_24 ?_
  refine lv_bipush (v := 8) hx hb dM_coin_27 (by decide) ?_
  refine lv_iload_n hx hb dM_coin_29 rfl (lv_at hl 1 rfl) ?_
  refine lv_imul hx hb dM_coin_30 ?_
  refine lv_iload_n hx hb dM_coin_31 rfl (lv_at hl 2 rfl) ?_
  refine lv_iadd hx hb dM_coin_32 ?_
  refine bm_lald hx hb hK hM 1 hP.c5 rfl (8 * j + i) (bm_ixm (c := 8) (by omega)) (by omega) dM_coin_33 ?_
  exact bm_lret hQ hx hb hr hlk hM hS ⟨hz, ⟨rfl, hP⟩, hF⟩ (Nat.le_refl _) (Nat.le_refl _) dM_coin_34
set_option maxHeartbeats 4000000 in
set_option maxRecDepth 100000 in
theorem bc_M_signature_n1 (l : Launch) (D : va_G) (ct : Nat → ClassId) (base : Nat) (ad : Nat → Nat) (M : bm_Map) (sz : Nat) (m : Nat) (th : Int32) (tr : Int32) (bl : Int64) (np : Int32) (nd : Int32) (f1 : Nat → Int32) (f2 : Nat → Int32) (f3 : Nat → Int32) (f4 : Nat → Int32) (g5 : Nat → Int64) (g6 : Nat → Int64) (f7 : Nat → Int32) (g8 : Nat → Int64) (g9 : Nat → Int64) (g10 : Nat → Int64) (g11 : Nat → Int64) (g12 : Nat → Int64) (g13 : Nat → Int64) (g14 : Nat → Int64) (g15 : Nat → Int64) (f16 : Nat → Int32) (g17 : Nat → Int64) (v w : Int32) (hP : bm_MD ct m th tr bl np nd f1 f2 f3 f4 g5 g6 f7 g8 g9 g10 g11 g12 g13 g14 g15 f16 g17 M) (hv : bm_bl v 4 = 0) : Met l yM_signature (bm_ws yM_signature cM_signature 3 (some .long)) { frames := 2, cells := 0, slots := 0, locals := 43 } (bm_Pre D ct base ad M sz [.ref m, .int v, .int w]) (bm_Post D base (bm_Pm m M sz (fun v M1 => v = some (.long 0) ∧ bm_MD ct m 1 tr bl np nd f1 f2 f3 f4 g5 g6 f7 g8 g9 g10 g11 g12 g13 g14 g15 f16 g17 M1))) 0 0 (bm_A base) := by
  refine bm_ofB (cc := cM_signature) (maxL := 3) (ret := (some .long)) (by decide +kernel) (Nat.le_of_ble_eq_true rfl) ?_
  intro vp ve s vm args below meth vc hx hb hr hlk hts hown hml hnm ls hl hz hM hG R Q hR hQ
  have hown : s.vm.findClass "BlindMintModel" = some vm.cls := hown
  have hK := hG.K
  have hS : va_S (bm_A base) s.heap s.heap [] := va_S.rf
  have hl : lv_has ls 3 [(0, .ref m), (1, .int v), (2, .int w)] := hl
  have hF : bm_fr m M M := bm_fr.rf
  refine lv_aload_n hx hb dM_signature_0 rfl (lv_at hl 0 rfl) ?_
  refine lv_iconst (v := 0) hx hb dM_signature_1 (by decide) ?_
  refine bm_put (ci := 7) (v := .int 0) (ty := .int) (C := "BlindMintModel") (T := bt_M) (N := 22) hx hb hts bu_M by_M bo_M bn_M hown hK hM hS hP.c0 rfl 0 (by decide) (hts _ bw_602) (fun _ h9 => h9) rfl (by decide +kernel) rfl rfl (Nat.le_of_ble_eq_true rfl) dM_signature_2 (fun H locs hz1 hM hS => ?_)
  have hz := hz1.trans hz
  obtain ⟨M1, hM, hP, hF⟩ : ∃ X, bm_M D base X H ∧ bm_MD ct m 0 tr bl np nd f1 f2 f3 f4 g5 g6 f7 g8 g9 g10 g11 g12 g13 g14 g15 f16 g17 X ∧ bm_fr m M X := ⟨_, hM, hP.s_th _, hF.up0⟩
  refine lv_aload_n hx hb dM_signature_5 rfl (lv_at hl 0 rfl) ?_
  refine lv_iload_n hx hb dM_signature_6 rfl (lv_at hl 1 rfl) ?_
  refine lv_iload_n hx hb dM_signature_7 rfl (lv_at hl 2 rfl) ?_
  refine bm_call (va_runV (As := [.int v, .int w]) (rest := []) ⟨hx, hb, hml, hown, hts⟩ (bc_M_noCoin_n1 l D ct base ad M1 sz m 0 tr bl np nd f1 f2 f3 f4 g5 g6 f7 g8 g9 g10 g11 g12 g13 g14 g15 f16 g17 v w hP hv) (cwV 2 hts (bm_goodV bw_757 bw_759 bs_15 bw_5 bw_760) rfl rfl rfl (by decide +kernel) (by rw [← hR]; exact ⟨Nat.le_of_ble_eq_true rfl, Nat.le_of_ble_eq_true rfl⟩)) (bm_preV hM hG hS hz hP.c0 rfl) rfl rfl hl.1 rfl (lv_room (Nat.le_of_ble_eq_true rfl)) dM_signature_8 (by rw [← hR]; exact ⟨Nat.le_of_ble_eq_true rfl, Nat.le_of_ble_eq_true rfl⟩)) hS (fun v9 M2 H locs hq hM hS _ => ?_)
  obtain ⟨hz, ⟨rfl, hP⟩, hF9⟩ := hq
  have hF := hF.tr hF9
  refine lv_if_eq (tgt := 23) hx hb dM_signature_11 rfl (fun h => absurd h (by decide)) (fun _ => ?_)
  refine lv_aload_n hx hb dM_signature_14 rfl (lv_at hl 0 rfl) ?_
  refine lv_iconst (v := 1) hx hb dM_signature_15 (by decide) ?_
  refine bm_call (va_runV (As := [.int 1]) (rest := []) ⟨hx, hb, hml, hown, hts⟩ (bc_M_fail l D ct base ad M2 sz m 0 tr bl np nd f1 f2 f3 f4 g5 g6 f7 g8 g9 g10 g11 g12 g13 g14 g15 f16 g17 1 hP) (cwV 1 hts (bm_goodV bw_682 bw_684 bs_10 bw_5 bw_685) rfl rfl rfl (by decide +kernel) (by rw [← hR]; exact ⟨Nat.le_of_ble_eq_true rfl, Nat.le_of_ble_eq_true rfl⟩)) (bm_preV hM hG hS hz hP.c0 rfl) rfl rfl hl.1 rfl (lv_room (Nat.le_of_ble_eq_true rfl)) dM_signature_16 (by rw [← hR]; exact ⟨Nat.le_of_ble_eq_true rfl, Nat.le_of_ble_eq_true rfl⟩)) hS (fun v9 M3 H locs hq hM hS _ => ?_)
  obtain ⟨hz, ⟨rfl, hP⟩, hF9⟩ := hq
  have hF := hF.tr hF9
  refine lv_i2l (v := 0) hx hb dM_signature_19 (by decide) ?_
  refine lv_goto (tgt := 34) hx hb dM_signature_20 rfl ?_
  exact bm_lret hQ hx hb hr hlk hM hS ⟨hz, ⟨rfl, hP⟩, hF⟩ (Nat.le_refl _) (Nat.le_refl _) dM_signature_34
set_option maxHeartbeats 4000000 in
set_option maxRecDepth 100000 in
theorem bc_M_signature_n2 (l : Launch) (D : va_G) (ct : Nat → ClassId) (base : Nat) (ad : Nat → Nat) (M : bm_Map) (sz : Nat) (m : Nat) (th : Int32) (tr : Int32) (bl : Int64) (np : Int32) (nd : Int32) (f1 : Nat → Int32) (f2 : Nat → Int32) (f3 : Nat → Int32) (f4 : Nat → Int32) (g5 : Nat → Int64) (g6 : Nat → Int64) (f7 : Nat → Int32) (g8 : Nat → Int64) (g9 : Nat → Int64) (g10 : Nat → Int64) (g11 : Nat → Int64) (g12 : Nat → Int64) (g13 : Nat → Int64) (g14 : Nat → Int64) (g15 : Nat → Int64) (f16 : Nat → Int32) (g17 : Nat → Int64) (j : Nat) (w : Int32) (hP : bm_MD ct m th tr bl np nd f1 f2 f3 f4 g5 g6 f7 g8 g9 g10 g11 g12 g13 g14 g15 f16 g17 M) (hj : j < 4) (hw : bm_bl w (f3 j) = 0) : Met l yM_signature (bm_ws yM_signature cM_signature 3 (some .long)) { frames := 2, cells := 0, slots := 0, locals := 43 } (bm_Pre D ct base ad M sz [.ref m, .int (nI j), .int w]) (bm_Post D base (bm_Pm m M sz (fun v M1 => v = some (.long 0) ∧ bm_MD ct m 1 tr bl np nd f1 f2 f3 f4 g5 g6 f7 g8 g9 g10 g11 g12 g13 g14 g15 f16 g17 M1))) 0 0 (bm_A base) := by
  refine bm_ofB (cc := cM_signature) (maxL := 3) (ret := (some .long)) (by decide +kernel) (Nat.le_of_ble_eq_true rfl) ?_
  intro vp ve s vm args below meth vc hx hb hr hlk hts hown hml hnm ls hl hz hM hG R Q hR hQ
  have hown : s.vm.findClass "BlindMintModel" = some vm.cls := hown
  have hK := hG.K
  have hS : va_S (bm_A base) s.heap s.heap [] := va_S.rf
  have hl : lv_has ls 3 [(0, .ref m), (1, .int (nI j)), (2, .int w)] := hl
  have hF : bm_fr m M M := bm_fr.rf
  refine lv_aload_n hx hb dM_signature_0 rfl (lv_at hl 0 rfl) ?_
  refine lv_iconst (v := 0) hx hb dM_signature_1 (by decide) ?_
  refine bm_put (ci := 7) (v := .int 0) (ty := .int) (C := "BlindMintModel") (T := bt_M) (N := 22) hx hb hts bu_M by_M bo_M bn_M hown hK hM hS hP.c0 rfl 0 (by decide) (hts _ bw_602) (fun _ h9 => h9) rfl (by decide +kernel) rfl rfl (Nat.le_of_ble_eq_true rfl) dM_signature_2 (fun H locs hz1 hM hS => ?_)
  have hz := hz1.trans hz
  obtain ⟨M1, hM, hP, hF⟩ : ∃ X, bm_M D base X H ∧ bm_MD ct m 0 tr bl np nd f1 f2 f3 f4 g5 g6 f7 g8 g9 g10 g11 g12 g13 g14 g15 f16 g17 X ∧ bm_fr m M X := ⟨_, hM, hP.s_th _, hF.up0⟩
  refine lv_aload_n hx hb dM_signature_5 rfl (lv_at hl 0 rfl) ?_
  refine lv_iload_n hx hb dM_signature_6 rfl (lv_at hl 1 rfl) ?_
  refine lv_iload_n hx hb dM_signature_7 rfl (lv_at hl 2 rfl) ?_
  refine bm_call (va_runV (As := [.int (nI j), .int w]) (rest := []) ⟨hx, hb, hml, hown, hts⟩ (bc_M_noCoin_n2 l D ct base ad M1 sz m 0 tr bl np nd f1 f2 f3 f4 g5 g6 f7 g8 g9 g10 g11 g12 g13 g14 g15 f16 g17 j w hP hj hw) (cwV 2 hts (bm_goodV bw_757 bw_759 bs_15 bw_5 bw_760) rfl rfl rfl (by decide +kernel) (by rw [← hR]; exact ⟨Nat.le_of_ble_eq_true rfl, Nat.le_of_ble_eq_true rfl⟩)) (bm_preV hM hG hS hz hP.c0 rfl) rfl rfl hl.1 rfl (lv_room (Nat.le_of_ble_eq_true rfl)) dM_signature_8 (by rw [← hR]; exact ⟨Nat.le_of_ble_eq_true rfl, Nat.le_of_ble_eq_true rfl⟩)) hS (fun v9 M2 H locs hq hM hS _ => ?_)
  obtain ⟨hz, ⟨rfl, hP⟩, hF9⟩ := hq
  have hF := hF.tr hF9
  refine lv_if_eq (tgt := 23) hx hb dM_signature_11 rfl (fun h => absurd h (by decide)) (fun _ => ?_)
  refine lv_aload_n hx hb dM_signature_14 rfl (lv_at hl 0 rfl) ?_
  refine lv_iconst (v := 1) hx hb dM_signature_15 (by decide) ?_
  refine bm_call (va_runV (As := [.int 1]) (rest := []) ⟨hx, hb, hml, hown, hts⟩ (bc_M_fail l D ct base ad M2 sz m 0 tr bl np nd f1 f2 f3 f4 g5 g6 f7 g8 g9 g10 g11 g12 g13 g14 g15 f16 g17 1 hP) (cwV 1 hts (bm_goodV bw_682 bw_684 bs_10 bw_5 bw_685) rfl rfl rfl (by decide +kernel) (by rw [← hR]; exact ⟨Nat.le_of_ble_eq_true rfl, Nat.le_of_ble_eq_true rfl⟩)) (bm_preV hM hG hS hz hP.c0 rfl) rfl rfl hl.1 rfl (lv_room (Nat.le_of_ble_eq_true rfl)) dM_signature_16 (by rw [← hR]; exact ⟨Nat.le_of_ble_eq_true rfl, Nat.le_of_ble_eq_true rfl⟩)) hS (fun v9 M3 H locs hq hM hS _ => ?_)
  obtain ⟨hz, ⟨rfl, hP⟩, hF9⟩ := hq
  have hF := hF.tr hF9
  refine lv_i2l (v := 0) hx hb dM_signature_19 (by decide) ?_
  refine lv_goto (tgt := 34) hx hb dM_signature_20 rfl ?_
  exact bm_lret hQ hx hb hr hlk hM hS ⟨hz, ⟨rfl, hP⟩, hF⟩ (Nat.le_refl _) (Nat.le_refl _) dM_signature_34
set_option maxHeartbeats 4000000 in
set_option maxRecDepth 100000 in
theorem bc_M_signature_ok (l : Launch) (D : va_G) (ct : Nat → ClassId) (base : Nat) (ad : Nat → Nat) (M : bm_Map) (sz : Nat) (m : Nat) (th : Int32) (tr : Int32) (bl : Int64) (np : Int32) (nd : Int32) (f1 : Nat → Int32) (f2 : Nat → Int32) (f3 : Nat → Int32) (f4 : Nat → Int32) (g5 : Nat → Int64) (g6 : Nat → Int64) (f7 : Nat → Int32) (g8 : Nat → Int64) (g9 : Nat → Int64) (g10 : Nat → Int64) (g11 : Nat → Int64) (g12 : Nat → Int64) (g13 : Nat → Int64) (g14 : Nat → Int64) (g15 : Nat → Int64) (f16 : Nat → Int32) (g17 : Nat → Int64) (j i : Nat) (hP : bm_MD ct m th tr bl np nd f1 f2 f3 f4 g5 g6 f7 g8 g9 g10 g11 g12 g13 g14 g15 f16 g17 M) (hj : j < 4) (hi : i < 8) (hw : bm_bl (nI i) (f3 j) = 1) : Met l yM_signature (bm_ws yM_signature cM_signature 3 (some .long)) { frames := 2, cells := 0, slots := 0, locals := 43 } (bm_Pre D ct base ad M sz [.ref m, .int (nI j), .int (nI i)]) (bm_Post D base (bm_Pm m M sz (fun v M1 => v = some (.long (g6 (8 * j + i))) ∧ bm_MD ct m 0 tr bl np nd f1 f2 f3 f4 g5 g6 f7 g8 g9 g10 g11 g12 g13 g14 g15 f16 g17 M1))) 0 0 (bm_A base) := by
  refine bm_ofB (cc := cM_signature) (maxL := 3) (ret := (some .long)) (by decide +kernel) (Nat.le_of_ble_eq_true rfl) ?_
  intro vp ve s vm args below meth vc hx hb hr hlk hts hown hml hnm ls hl hz hM hG R Q hR hQ
  have hown : s.vm.findClass "BlindMintModel" = some vm.cls := hown
  have hK := hG.K
  have hS : va_S (bm_A base) s.heap s.heap [] := va_S.rf
  have hl : lv_has ls 3 [(0, .ref m), (1, .int (nI j)), (2, .int (nI i))] := hl
  have hF : bm_fr m M M := bm_fr.rf
  refine lv_aload_n hx hb dM_signature_0 rfl (lv_at hl 0 rfl) ?_
  refine lv_iconst (v := 0) hx hb dM_signature_1 (by decide) ?_
  refine bm_put (ci := 7) (v := .int 0) (ty := .int) (C := "BlindMintModel") (T := bt_M) (N := 22) hx hb hts bu_M by_M bo_M bn_M hown hK hM hS hP.c0 rfl 0 (by decide) (hts _ bw_602) (fun _ h9 => h9) rfl (by decide +kernel) rfl rfl (Nat.le_of_ble_eq_true rfl) dM_signature_2 (fun H locs hz1 hM hS => ?_)
  have hz := hz1.trans hz
  obtain ⟨M1, hM, hP, hF⟩ : ∃ X, bm_M D base X H ∧ bm_MD ct m 0 tr bl np nd f1 f2 f3 f4 g5 g6 f7 g8 g9 g10 g11 g12 g13 g14 g15 f16 g17 X ∧ bm_fr m M X := ⟨_, hM, hP.s_th _, hF.up0⟩
  refine lv_aload_n hx hb dM_signature_5 rfl (lv_at hl 0 rfl) ?_
  refine lv_iload_n hx hb dM_signature_6 rfl (lv_at hl 1 rfl) ?_
  refine lv_iload_n hx hb dM_signature_7 rfl (lv_at hl 2 rfl) ?_
  refine bm_call (va_runV (As := [.int (nI j), .int (nI i)]) (rest := []) ⟨hx, hb, hml, hown, hts⟩ (bc_M_noCoin_ok l D ct base ad M1 sz m 0 tr bl np nd f1 f2 f3 f4 g5 g6 f7 g8 g9 g10 g11 g12 g13 g14 g15 f16 g17 j i hP hj hi hw) (cwV 2 hts (bm_goodV bw_757 bw_759 bs_15 bw_5 bw_760) rfl rfl rfl (by decide +kernel) (by rw [← hR]; exact ⟨Nat.le_of_ble_eq_true rfl, Nat.le_of_ble_eq_true rfl⟩)) (bm_preV hM hG hS hz hP.c0 rfl) rfl rfl hl.1 rfl (lv_room (Nat.le_of_ble_eq_true rfl)) dM_signature_8 (by rw [← hR]; exact ⟨Nat.le_of_ble_eq_true rfl, Nat.le_of_ble_eq_true rfl⟩)) hS (fun v9 M2 H locs hq hM hS _ => ?_)
  obtain ⟨hz, ⟨rfl, hP⟩, hF9⟩ := hq
  have hF := hF.tr hF9
  refine lv_if_eq (tgt := 23) hx hb dM_signature_11 rfl (fun _ => ?_) (fun h => absurd h (by decide))
  refine lv_aload_n hx hb dM_signature_23 rfl (lv_at hl 0 rfl) ?_
  refine bm_get (ci := 7) (v := .ref (m + 6)) (C := "BlindMintModel") (T := bt_M) (N := 22) hx hb hts bu_M hown hK hM hP.c0 rfl 8 (by decide) (hts _ bw_610) (fun _ h9 => h9) rfl dM_signature_24 ?_
  refine lv_bipush (v := 8) hx hb dM_signature_27 (by decide) ?_
  refine lv_iload_n hx hb dM_signature_29 rfl (lv_at hl 1 rfl) ?_
  refine lv_imul hx hb dM_signature_30 ?_
  refine lv_iload_n hx hb dM_signature_31 rfl (lv_at hl 2 rfl) ?_
  refine lv_iadd hx hb dM_signature_32 ?_
  refine bm_lald hx hb hK hM 1 hP.c6 rfl (8 * j + i) (bm_ixm (c := 8) (by omega)) (by omega) dM_signature_33 ?_
  exact bm_lret hQ hx hb hr hlk hM hS ⟨hz, ⟨rfl, hP⟩, hF⟩ (Nat.le_refl _) (Nat.le_refl _) dM_signature_34
set_option maxHeartbeats 4000000 in
set_option maxRecDepth 100000 in
theorem bc_M_noNumber_n1 (l : Launch) (D : va_G) (ct : Nat → ClassId) (base : Nat) (ad : Nat → Nat) (M : bm_Map) (sz : Nat) (m : Nat) (th : Int32) (tr : Int32) (bl : Int64) (np : Int32) (nd : Int32) (f1 : Nat → Int32) (f2 : Nat → Int32) (f3 : Nat → Int32) (f4 : Nat → Int32) (g5 : Nat → Int64) (g6 : Nat → Int64) (f7 : Nat → Int32) (g8 : Nat → Int64) (g9 : Nat → Int64) (g10 : Nat → Int64) (g11 : Nat → Int64) (g12 : Nat → Int64) (g13 : Nat → Int64) (g14 : Nat → Int64) (g15 : Nat → Int64) (f16 : Nat → Int32) (g17 : Nat → Int64) (v w : Int32) (hP : bm_MD ct m th tr bl np nd f1 f2 f3 f4 g5 g6 f7 g8 g9 g10 g11 g12 g13 g14 g15 f16 g17 M) (hv : bm_bl v np = 0) : Met l yM_noNumber (bm_ws yM_noNumber cM_noNumber 3 (some .boolean)) { frames := 1, cells := 0, slots := 0, locals := 21 } (bm_Pre D ct base ad M sz [.ref m, .int v, .int w]) (bm_Post D base (bm_Pm m M sz (fun v M1 => v = some (.int 1) ∧ bm_MD ct m th tr bl np nd f1 f2 f3 f4 g5 g6 f7 g8 g9 g10 g11 g12 g13 g14 g15 f16 g17 M1))) 0 0 (bm_A base) := by
  refine bm_ofB (cc := cM_noNumber) (maxL := 3) (ret := (some .boolean)) (by decide +kernel) (Nat.le_of_ble_eq_true rfl) ?_
  intro vp ve s vm args below meth vc hx hb hr hlk hts hown hml hnm ls hl hz hM hG R Q hR hQ
  have hown : s.vm.findClass "BlindMintModel" = some vm.cls := hown
  have hK := hG.K
  have hS : va_S (bm_A base) s.heap s.heap [] := va_S.rf
  have hl : lv_has ls 3 [(0, .ref m), (1, .int v), (2, .int w)] := hl
  have hF : bm_fr m M M := bm_fr.rf
  refine lv_iload_n hx hb dM_noNumber_0 rfl (lv_at hl 1 rfl) ?_
  refine lv_aload_n hx hb dM_noNumber_1 rfl (lv_at hl 0 rfl) ?_
  refine bm_get (ci := 7) (v := .int np) (C := "BlindMintModel") (T := bt_M) (N := 22) hx hb hts bu_M hown hK hM hP.c0 rfl 11 (by decide) (hts _ bw_613) (fun _ h9 => h9) rfl dM_noNumber_2 ?_
  refine bm_callE (va_runS (As := [.int v, .int np]) (rest := []) ⟨hx, hb, hml, hown, hts⟩ (bc_M_below l D ct base ad M sz v np) (va_cwS 2 hts (bm_goodS bw_679 bw_680 bw_5 bw_681) rfl rfl rfl (by decide +kernel) (by rw [← hR]; exact ⟨Nat.le_of_ble_eq_true rfl, Nat.le_of_ble_eq_true rfl⟩)) (bm_preS hM hG hS hz) rfl rfl hl.1 rfl (lv_room (Nat.le_of_ble_eq_true rfl)) dM_noNumber_5 (by rw [← hR]; exact ⟨Nat.le_of_ble_eq_true rfl, Nat.le_of_ble_eq_true rfl⟩)) hS (fun H locs hz hM hS => ?_)
  refine lv_if_eq (tgt := 20) hx hb dM_noNumber_8 rfl (fun h8 => ?_) (fun h8 => absurd hv h8)
  refine lv_iconst (v := 1) hx hb dM_noNumber_20 (by decide) ?_
  refine lv_goto (tgt := 25) hx hb dM_noNumber_21 rfl ?_
  exact bm_zret hQ hx hb hr hlk (by decide) hM hS ⟨hz, ⟨rfl, hP⟩, hF⟩ (Nat.le_refl _) (Nat.le_refl _) dM_noNumber_25
set_option maxHeartbeats 4000000 in
set_option maxRecDepth 100000 in
theorem bc_M_noNumber_n2 (l : Launch) (D : va_G) (ct : Nat → ClassId) (base : Nat) (ad : Nat → Nat) (M : bm_Map) (sz : Nat) (m : Nat) (th : Int32) (tr : Int32) (bl : Int64) (np : Int32) (nd : Int32) (f1 : Nat → Int32) (f2 : Nat → Int32) (f3 : Nat → Int32) (f4 : Nat → Int32) (g5 : Nat → Int64) (g6 : Nat → Int64) (f7 : Nat → Int32) (g8 : Nat → Int64) (g9 : Nat → Int64) (g10 : Nat → Int64) (g11 : Nat → Int64) (g12 : Nat → Int64) (g13 : Nat → Int64) (g14 : Nat → Int64) (g15 : Nat → Int64) (f16 : Nat → Int32) (g17 : Nat → Int64) (v w : Int32) (hP : bm_MD ct m th tr bl np nd f1 f2 f3 f4 g5 g6 f7 g8 g9 g10 g11 g12 g13 g14 g15 f16 g17 M) (hv : bm_bl v np = 1) (hw : bm_bl w 16 = 0) : Met l yM_noNumber (bm_ws yM_noNumber cM_noNumber 3 (some .boolean)) { frames := 1, cells := 0, slots := 0, locals := 21 } (bm_Pre D ct base ad M sz [.ref m, .int v, .int w]) (bm_Post D base (bm_Pm m M sz (fun v M1 => v = some (.int 1) ∧ bm_MD ct m th tr bl np nd f1 f2 f3 f4 g5 g6 f7 g8 g9 g10 g11 g12 g13 g14 g15 f16 g17 M1))) 0 0 (bm_A base) := by
  refine bm_ofB (cc := cM_noNumber) (maxL := 3) (ret := (some .boolean)) (by decide +kernel) (Nat.le_of_ble_eq_true rfl) ?_
  intro vp ve s vm args below meth vc hx hb hr hlk hts hown hml hnm ls hl hz hM hG R Q hR hQ
  have hown : s.vm.findClass "BlindMintModel" = some vm.cls := hown
  have hK := hG.K
  have hS : va_S (bm_A base) s.heap s.heap [] := va_S.rf
  have hl : lv_has ls 3 [(0, .ref m), (1, .int v), (2, .int w)] := hl
  have hF : bm_fr m M M := bm_fr.rf
  refine lv_iload_n hx hb dM_noNumber_0 rfl (lv_at hl 1 rfl) ?_
  refine lv_aload_n hx hb dM_noNumber_1 rfl (lv_at hl 0 rfl) ?_
  refine bm_get (ci := 7) (v := .int np) (C := "BlindMintModel") (T := bt_M) (N := 22) hx hb hts bu_M hown hK hM hP.c0 rfl 11 (by decide) (hts _ bw_613) (fun _ h9 => h9) rfl dM_noNumber_2 ?_
  refine bm_callE (va_runS (As := [.int v, .int np]) (rest := []) ⟨hx, hb, hml, hown, hts⟩ (bc_M_below l D ct base ad M sz v np) (va_cwS 2 hts (bm_goodS bw_679 bw_680 bw_5 bw_681) rfl rfl rfl (by decide +kernel) (by rw [← hR]; exact ⟨Nat.le_of_ble_eq_true rfl, Nat.le_of_ble_eq_true rfl⟩)) (bm_preS hM hG hS hz) rfl rfl hl.1 rfl (lv_room (Nat.le_of_ble_eq_true rfl)) dM_noNumber_5 (by rw [← hR]; exact ⟨Nat.le_of_ble_eq_true rfl, Nat.le_of_ble_eq_true rfl⟩)) hS (fun H locs hz hM hS => ?_)
  refine lv_if_eq (tgt := 20) hx hb dM_noNumber_8 rfl (fun h8 => absurd h8 (by rw [hv]; decide)) (fun h8 => ?_)
  refine lv_iload_n hx hb dM_noNumber_11 rfl (lv_at hl 2 rfl) ?_
  refine lv_bipush (v := 16) hx hb dM_noNumber_12 (by decide) ?_
  refine bm_callE (va_runS (As := [.int w, .int 16]) (rest := []) ⟨hx, hb, hml, hown, hts⟩ (bc_M_below l D ct base ad M sz w 16) (va_cwS 2 hts (bm_goodS bw_679 bw_680 bw_5 bw_681) rfl rfl rfl (by decide +kernel) (by rw [← hR]; exact ⟨Nat.le_of_ble_eq_true rfl, Nat.le_of_ble_eq_true rfl⟩)) (bm_preS hM hG hS hz) rfl rfl hl.1 rfl (lv_room (Nat.le_of_ble_eq_true rfl)) dM_noNumber_14 (by rw [← hR]; exact ⟨Nat.le_of_ble_eq_true rfl, Nat.le_of_ble_eq_true rfl⟩)) hS (fun H locs hz hM hS => ?_)
  refine lv_if_ne (tgt := 24) hx hb dM_noNumber_17 rfl (fun h17 => absurd hw h17) (fun h17 => ?_)
  refine lv_iconst (v := 1) hx hb dM_noNumber_20 (by decide) ?_
  refine lv_goto (tgt := 25) hx hb dM_noNumber_21 rfl ?_
  exact bm_zret hQ hx hb hr hlk (by decide) hM hS ⟨hz, ⟨rfl, hP⟩, hF⟩ (Nat.le_refl _) (Nat.le_refl _) dM_noNumber_25
set_option maxHeartbeats 4000000 in
set_option maxRecDepth 100000 in
theorem bc_M_noNumber_ok (l : Launch) (D : va_G) (ct : Nat → ClassId) (base : Nat) (ad : Nat → Nat) (M : bm_Map) (sz : Nat) (m : Nat) (th : Int32) (tr : Int32) (bl : Int64) (np : Int32) (nd : Int32) (f1 : Nat → Int32) (f2 : Nat → Int32) (f3 : Nat → Int32) (f4 : Nat → Int32) (g5 : Nat → Int64) (g6 : Nat → Int64) (f7 : Nat → Int32) (g8 : Nat → Int64) (g9 : Nat → Int64) (g10 : Nat → Int64) (g11 : Nat → Int64) (g12 : Nat → Int64) (g13 : Nat → Int64) (g14 : Nat → Int64) (g15 : Nat → Int64) (f16 : Nat → Int32) (g17 : Nat → Int64) (k i : Nat) (hP : bm_MD ct m th tr bl np nd f1 f2 f3 f4 g5 g6 f7 g8 g9 g10 g11 g12 g13 g14 g15 f16 g17 M) (hk : k < 20) (hi : i < 16) (hv : bm_bl (nI k) np = 1) : Met l yM_noNumber (bm_ws yM_noNumber cM_noNumber 3 (some .boolean)) { frames := 1, cells := 0, slots := 0, locals := 21 } (bm_Pre D ct base ad M sz [.ref m, .int (nI k), .int (nI i)]) (bm_Post D base (bm_Pm m M sz (fun v M1 => v = some (.int 0) ∧ bm_MD ct m th tr bl np nd f1 f2 f3 f4 g5 g6 f7 g8 g9 g10 g11 g12 g13 g14 g15 f16 g17 M1))) 0 0 (bm_A base) := by
  refine bm_ofB (cc := cM_noNumber) (maxL := 3) (ret := (some .boolean)) (by decide +kernel) (Nat.le_of_ble_eq_true rfl) ?_
  intro vp ve s vm args below meth vc hx hb hr hlk hts hown hml hnm ls hl hz hM hG R Q hR hQ
  have hown : s.vm.findClass "BlindMintModel" = some vm.cls := hown
  have hK := hG.K
  have hS : va_S (bm_A base) s.heap s.heap [] := va_S.rf
  have hl : lv_has ls 3 [(0, .ref m), (1, .int (nI k)), (2, .int (nI i))] := hl
  have hF : bm_fr m M M := bm_fr.rf
  refine lv_iload_n hx hb dM_noNumber_0 rfl (lv_at hl 1 rfl) ?_
  refine lv_aload_n hx hb dM_noNumber_1 rfl (lv_at hl 0 rfl) ?_
  refine bm_get (ci := 7) (v := .int np) (C := "BlindMintModel") (T := bt_M) (N := 22) hx hb hts bu_M hown hK hM hP.c0 rfl 11 (by decide) (hts _ bw_613) (fun _ h9 => h9) rfl dM_noNumber_2 ?_
  refine bm_callE (va_runS (As := [.int (nI k), .int np]) (rest := []) ⟨hx, hb, hml, hown, hts⟩ (bc_M_below l D ct base ad M sz (nI k) np) (va_cwS 2 hts (bm_goodS bw_679 bw_680 bw_5 bw_681) rfl rfl rfl (by decide +kernel) (by rw [← hR]; exact ⟨Nat.le_of_ble_eq_true rfl, Nat.le_of_ble_eq_true rfl⟩)) (bm_preS hM hG hS hz) rfl rfl hl.1 rfl (lv_room (Nat.le_of_ble_eq_true rfl)) dM_noNumber_5 (by rw [← hR]; exact ⟨Nat.le_of_ble_eq_true rfl, Nat.le_of_ble_eq_true rfl⟩)) hS (fun H locs hz hM hS => ?_)
  refine lv_if_eq (tgt := 20) hx hb dM_noNumber_8 rfl (fun h8 => absurd h8 (by rw [hv]; decide)) (fun h8 => ?_)
  refine lv_iload_n hx hb dM_noNumber_11 rfl (lv_at hl 2 rfl) ?_
  refine lv_bipush (v := 16) hx hb dM_noNumber_12 (by decide) ?_
  refine bm_callE (va_runS (As := [.int (nI i), .int 16]) (rest := []) ⟨hx, hb, hml, hown, hts⟩ (bc_M_below l D ct base ad M sz (nI i) 16) (va_cwS 2 hts (bm_goodS bw_679 bw_680 bw_5 bw_681) rfl rfl rfl (by decide +kernel) (by rw [← hR]; exact ⟨Nat.le_of_ble_eq_true rfl, Nat.le_of_ble_eq_true rfl⟩)) (bm_preS hM hG hS hz) rfl rfl hl.1 rfl (lv_room (Nat.le_of_ble_eq_true rfl)) dM_noNumber_14 (by rw [← hR]; exact ⟨Nat.le_of_ble_eq_true rfl, Nat.le_of_ble_eq_true rfl⟩)) hS (fun H locs hz hM hS => ?_)
  refine lv_if_ne (tgt := 24) hx hb dM_noNumber_17 rfl (fun h17 => ?_) (fun h17 => absurd h17 (by rw [show bm_bl (nI i) 16 = 1 from bm_bl_nI (N := 16) hi (by decide)]; decide))
  refine lv_iconst (v := 0) hx hb dM_noNumber_24 (by decide) ?_
  exact bm_zret hQ hx hb hr hlk (by decide) hM hS ⟨hz, ⟨rfl, hP⟩, hF⟩ (Nat.le_refl _) (Nat.le_refl _) dM_noNumber_25
set_option maxHeartbeats 4000000 in
set_option maxRecDepth 100000 in
theorem bc_M_number_n1 (l : Launch) (D : va_G) (ct : Nat → ClassId) (base : Nat) (ad : Nat → Nat) (M : bm_Map) (sz : Nat) (m : Nat) (th : Int32) (tr : Int32) (bl : Int64) (np : Int32) (nd : Int32) (f1 : Nat → Int32) (f2 : Nat → Int32) (f3 : Nat → Int32) (f4 : Nat → Int32) (g5 : Nat → Int64) (g6 : Nat → Int64) (f7 : Nat → Int32) (g8 : Nat → Int64) (g9 : Nat → Int64) (g10 : Nat → Int64) (g11 : Nat → Int64) (g12 : Nat → Int64) (g13 : Nat → Int64) (g14 : Nat → Int64) (g15 : Nat → Int64) (f16 : Nat → Int32) (g17 : Nat → Int64) (v w : Int32) (hP : bm_MD ct m th tr bl np nd f1 f2 f3 f4 g5 g6 f7 g8 g9 g10 g11 g12 g13 g14 g15 f16 g17 M) (hv : bm_bl v np = 0) : Met l yM_number (bm_ws yM_number cM_number 3 (some .long)) { frames := 2, cells := 0, slots := 0, locals := 43 } (bm_Pre D ct base ad M sz [.ref m, .int v, .int w]) (bm_Post D base (bm_Pm m M sz (fun v M1 => v = some (.long 0) ∧ bm_MD ct m 1 tr bl np nd f1 f2 f3 f4 g5 g6 f7 g8 g9 g10 g11 g12 g13 g14 g15 f16 g17 M1))) 0 0 (bm_A base) := by
  refine bm_ofB (cc := cM_number) (maxL := 3) (ret := (some .long)) (by decide +kernel) (Nat.le_of_ble_eq_true rfl) ?_
  intro vp ve s vm args below meth vc hx hb hr hlk hts hown hml hnm ls hl hz hM hG R Q hR hQ
  have hown : s.vm.findClass "BlindMintModel" = some vm.cls := hown
  have hK := hG.K
  have hS : va_S (bm_A base) s.heap s.heap [] := va_S.rf
  have hl : lv_has ls 3 [(0, .ref m), (1, .int v), (2, .int w)] := hl
  have hF : bm_fr m M M := bm_fr.rf
  refine lv_aload_n hx hb dM_number_0 rfl (lv_at hl 0 rfl) ?_
  refine lv_iconst (v := 0) hx hb dM_number_1 (by decide) ?_
  refine bm_put (ci := 7) (v := .int 0) (ty := .int) (C := "BlindMintModel") (T := bt_M) (N := 22) hx hb hts bu_M by_M bo_M bn_M hown hK hM hS hP.c0 rfl 0 (by decide) (hts _ bw_602) (fun _ h9 => h9) rfl (by decide +kernel) rfl rfl (Nat.le_of_ble_eq_true rfl) dM_number_2 (fun H locs hz1 hM hS => ?_)
  have hz := hz1.trans hz
  obtain ⟨M1, hM, hP, hF⟩ : ∃ X, bm_M D base X H ∧ bm_MD ct m 0 tr bl np nd f1 f2 f3 f4 g5 g6 f7 g8 g9 g10 g11 g12 g13 g14 g15 f16 g17 X ∧ bm_fr m M X := ⟨_, hM, hP.s_th _, hF.up0⟩
  refine lv_aload_n hx hb dM_number_5 rfl (lv_at hl 0 rfl) ?_
  refine lv_iload_n hx hb dM_number_6 rfl (lv_at hl 1 rfl) ?_
  refine lv_iload_n hx hb dM_number_7 rfl (lv_at hl 2 rfl) ?_
  refine bm_call (va_runV (As := [.int v, .int w]) (rest := []) ⟨hx, hb, hml, hown, hts⟩ (bc_M_noNumber_n1 l D ct base ad M1 sz m 0 tr bl np nd f1 f2 f3 f4 g5 g6 f7 g8 g9 g10 g11 g12 g13 g14 g15 f16 g17 v w hP hv) (cwV 2 hts (bm_goodV bw_768 bw_770 bs_16 bw_5 bw_771) rfl rfl rfl (by decide +kernel) (by rw [← hR]; exact ⟨Nat.le_of_ble_eq_true rfl, Nat.le_of_ble_eq_true rfl⟩)) (bm_preV hM hG hS hz hP.c0 rfl) rfl rfl hl.1 rfl (lv_room (Nat.le_of_ble_eq_true rfl)) dM_number_8 (by rw [← hR]; exact ⟨Nat.le_of_ble_eq_true rfl, Nat.le_of_ble_eq_true rfl⟩)) hS (fun v9 M2 H locs hq hM hS _ => ?_)
  obtain ⟨hz, ⟨rfl, hP⟩, hF9⟩ := hq
  have hF := hF.tr hF9
  refine lv_if_eq (tgt := 23) hx hb dM_number_11 rfl (fun h => absurd h (by decide)) (fun _ => ?_)
  refine lv_aload_n hx hb dM_number_14 rfl (lv_at hl 0 rfl) ?_
  refine lv_iconst (v := 1) hx hb dM_number_15 (by decide) ?_
  refine bm_call (va_runV (As := [.int 1]) (rest := []) ⟨hx, hb, hml, hown, hts⟩ (bc_M_fail l D ct base ad M2 sz m 0 tr bl np nd f1 f2 f3 f4 g5 g6 f7 g8 g9 g10 g11 g12 g13 g14 g15 f16 g17 1 hP) (cwV 1 hts (bm_goodV bw_682 bw_684 bs_10 bw_5 bw_685) rfl rfl rfl (by decide +kernel) (by rw [← hR]; exact ⟨Nat.le_of_ble_eq_true rfl, Nat.le_of_ble_eq_true rfl⟩)) (bm_preV hM hG hS hz hP.c0 rfl) rfl rfl hl.1 rfl (lv_room (Nat.le_of_ble_eq_true rfl)) dM_number_16 (by rw [← hR]; exact ⟨Nat.le_of_ble_eq_true rfl, Nat.le_of_ble_eq_true rfl⟩)) hS (fun v9 M3 H locs hq hM hS _ => ?_)
  obtain ⟨hz, ⟨rfl, hP⟩, hF9⟩ := hq
  have hF := hF.tr hF9
  refine lv_i2l (v := 0) hx hb dM_number_19 (by decide) ?_
  refine lv_goto (tgt := 34) hx hb dM_number_20 rfl ?_
  exact bm_lret hQ hx hb hr hlk hM hS ⟨hz, ⟨rfl, hP⟩, hF⟩ (Nat.le_refl _) (Nat.le_refl _) dM_number_34
set_option maxHeartbeats 4000000 in
set_option maxRecDepth 100000 in
theorem bc_M_tamper_n1 (l : Launch) (D : va_G) (ct : Nat → ClassId) (base : Nat) (ad : Nat → Nat) (M : bm_Map) (sz : Nat) (m : Nat) (th : Int32) (tr : Int32) (bl : Int64) (np : Int32) (nd : Int32) (f1 : Nat → Int32) (f2 : Nat → Int32) (f3 : Nat → Int32) (f4 : Nat → Int32) (g5 : Nat → Int64) (g6 : Nat → Int64) (f7 : Nat → Int32) (g8 : Nat → Int64) (g9 : Nat → Int64) (g10 : Nat → Int64) (g11 : Nat → Int64) (g12 : Nat → Int64) (g13 : Nat → Int64) (g14 : Nat → Int64) (g15 : Nat → Int64) (f16 : Nat → Int32) (g17 : Nat → Int64) (v w : Int32) (mask : Int64) (hP : bm_MD ct m th tr bl np nd f1 f2 f3 f4 g5 g6 f7 g8 g9 g10 g11 g12 g13 g14 g15 f16 g17 M) (hv : bm_bl v np = 0) : Met l yM_tamper (bm_ws yM_tamper cM_tamper 5 (some .long)) { frames := 2, cells := 0, slots := 0, locals := 43 } (bm_Pre D ct base ad M sz [.ref m, .int v, .int w, .long mask]) (bm_Post D base (bm_Pm m M sz (fun v M1 => v = some (.long 0) ∧ bm_MD ct m 1 tr bl np nd f1 f2 f3 f4 g5 g6 f7 g8 g9 g10 g11 g12 g13 g14 g15 f16 g17 M1))) 0 0 (bm_A base) := by
  refine bm_ofB (cc := cM_tamper) (maxL := 5) (ret := (some .long)) (by decide +kernel) (Nat.le_of_ble_eq_true rfl) ?_
  intro vp ve s vm args below meth vc hx hb hr hlk hts hown hml hnm ls hl hz hM hG R Q hR hQ
  have hown : s.vm.findClass "BlindMintModel" = some vm.cls := hown
  have hK := hG.K
  have hS : va_S (bm_A base) s.heap s.heap [] := va_S.rf
  have hl : lv_has ls 5 [(0, .ref m), (1, .int v), (2, .int w), (3, .long mask)] := hl
  have hF : bm_fr m M M := bm_fr.rf
  refine lv_aload_n hx hb dM_tamper_0 rfl (lv_at hl 0 rfl) ?_
  refine lv_iconst (v := 0) hx hb dM_tamper_1 (by decide) ?_
  refine bm_put (ci := 7) (v := .int 0) (ty := .int) (C := "BlindMintModel") (T := bt_M) (N := 22) hx hb hts bu_M by_M bo_M bn_M hown hK hM hS hP.c0 rfl 0 (by decide) (hts _ bw_602) (fun _ h9 => h9) rfl (by decide +kernel) rfl rfl (Nat.le_of_ble_eq_true rfl) dM_tamper_2 (fun H locs hz1 hM hS => ?_)
  have hz := hz1.trans hz
  obtain ⟨M1, hM, hP, hF⟩ : ∃ X, bm_M D base X H ∧ bm_MD ct m 0 tr bl np nd f1 f2 f3 f4 g5 g6 f7 g8 g9 g10 g11 g12 g13 g14 g15 f16 g17 X ∧ bm_fr m M X := ⟨_, hM, hP.s_th _, hF.up0⟩
  refine lv_aload_n hx hb dM_tamper_5 rfl (lv_at hl 0 rfl) ?_
  refine lv_iload_n hx hb dM_tamper_6 rfl (lv_at hl 1 rfl) ?_
  refine lv_iload_n hx hb dM_tamper_7 rfl (lv_at hl 2 rfl) ?_
  refine bm_call (va_runV (As := [.int v, .int w]) (rest := []) ⟨hx, hb, hml, hown, hts⟩ (bc_M_noNumber_n1 l D ct base ad M1 sz m 0 tr bl np nd f1 f2 f3 f4 g5 g6 f7 g8 g9 g10 g11 g12 g13 g14 g15 f16 g17 v w hP hv) (cwV 2 hts (bm_goodV bw_768 bw_770 bs_16 bw_5 bw_771) rfl rfl rfl (by decide +kernel) (by rw [← hR]; exact ⟨Nat.le_of_ble_eq_true rfl, Nat.le_of_ble_eq_true rfl⟩)) (bm_preV hM hG hS hz hP.c0 rfl) rfl rfl hl.1 rfl (lv_room (Nat.le_of_ble_eq_true rfl)) dM_tamper_8 (by rw [← hR]; exact ⟨Nat.le_of_ble_eq_true rfl, Nat.le_of_ble_eq_true rfl⟩)) hS (fun v9 M2 H locs hq hM hS _ => ?_)
  obtain ⟨hz, ⟨rfl, hP⟩, hF9⟩ := hq
  have hF := hF.tr hF9
  refine lv_if_eq (tgt := 21) hx hb dM_tamper_11 rfl (fun h => absurd h (by decide)) (fun _ => ?_)
  refine lv_aload_n hx hb dM_tamper_14 rfl (lv_at hl 0 rfl) ?_
  refine lv_iconst (v := 1) hx hb dM_tamper_15 (by decide) ?_
  refine bm_call (va_runV (As := [.int 1]) (rest := []) ⟨hx, hb, hml, hown, hts⟩ (bc_M_fail l D ct base ad M2 sz m 0 tr bl np nd f1 f2 f3 f4 g5 g6 f7 g8 g9 g10 g11 g12 g13 g14 g15 f16 g17 1 hP) (cwV 1 hts (bm_goodV bw_682 bw_684 bs_10 bw_5 bw_685) rfl rfl rfl (by decide +kernel) (by rw [← hR]; exact ⟨Nat.le_of_ble_eq_true rfl, Nat.le_of_ble_eq_true rfl⟩)) (bm_preV hM hG hS hz hP.c0 rfl) rfl rfl hl.1 rfl (lv_room (Nat.le_of_ble_eq_true rfl)) dM_tamper_16 (by rw [← hR]; exact ⟨Nat.le_of_ble_eq_true rfl, Nat.le_of_ble_eq_true rfl⟩)) hS (fun v9 M3 H locs hq hM hS _ => ?_)
  obtain ⟨hz, ⟨rfl, hP⟩, hF9⟩ := hq
  have hF := hF.tr hF9
  refine lv_i2l (v := 0) hx hb dM_tamper_19 (by decide) ?_
  exact bm_lret hQ hx hb hr hlk hM hS ⟨hz, ⟨rfl, hP⟩, hF⟩ (Nat.le_refl _) (Nat.le_refl _) dM_tamper_20
set_option maxHeartbeats 4000000 in
set_option maxRecDepth 100000 in
theorem bc_M_number_n2 (l : Launch) (D : va_G) (ct : Nat → ClassId) (base : Nat) (ad : Nat → Nat) (M : bm_Map) (sz : Nat) (m : Nat) (th : Int32) (tr : Int32) (bl : Int64) (np : Int32) (nd : Int32) (f1 : Nat → Int32) (f2 : Nat → Int32) (f3 : Nat → Int32) (f4 : Nat → Int32) (g5 : Nat → Int64) (g6 : Nat → Int64) (f7 : Nat → Int32) (g8 : Nat → Int64) (g9 : Nat → Int64) (g10 : Nat → Int64) (g11 : Nat → Int64) (g12 : Nat → Int64) (g13 : Nat → Int64) (g14 : Nat → Int64) (g15 : Nat → Int64) (f16 : Nat → Int32) (g17 : Nat → Int64) (v w : Int32) (hP : bm_MD ct m th tr bl np nd f1 f2 f3 f4 g5 g6 f7 g8 g9 g10 g11 g12 g13 g14 g15 f16 g17 M) (hv : bm_bl v np = 1) (hw : bm_bl w 16 = 0) : Met l yM_number (bm_ws yM_number cM_number 3 (some .long)) { frames := 2, cells := 0, slots := 0, locals := 43 } (bm_Pre D ct base ad M sz [.ref m, .int v, .int w]) (bm_Post D base (bm_Pm m M sz (fun v M1 => v = some (.long 0) ∧ bm_MD ct m 1 tr bl np nd f1 f2 f3 f4 g5 g6 f7 g8 g9 g10 g11 g12 g13 g14 g15 f16 g17 M1))) 0 0 (bm_A base) := by
  refine bm_ofB (cc := cM_number) (maxL := 3) (ret := (some .long)) (by decide +kernel) (Nat.le_of_ble_eq_true rfl) ?_
  intro vp ve s vm args below meth vc hx hb hr hlk hts hown hml hnm ls hl hz hM hG R Q hR hQ
  have hown : s.vm.findClass "BlindMintModel" = some vm.cls := hown
  have hK := hG.K
  have hS : va_S (bm_A base) s.heap s.heap [] := va_S.rf
  have hl : lv_has ls 3 [(0, .ref m), (1, .int v), (2, .int w)] := hl
  have hF : bm_fr m M M := bm_fr.rf
  refine lv_aload_n hx hb dM_number_0 rfl (lv_at hl 0 rfl) ?_
  refine lv_iconst (v := 0) hx hb dM_number_1 (by decide) ?_
  refine bm_put (ci := 7) (v := .int 0) (ty := .int) (C := "BlindMintModel") (T := bt_M) (N := 22) hx hb hts bu_M by_M bo_M bn_M hown hK hM hS hP.c0 rfl 0 (by decide) (hts _ bw_602) (fun _ h9 => h9) rfl (by decide +kernel) rfl rfl (Nat.le_of_ble_eq_true rfl) dM_number_2 (fun H locs hz1 hM hS => ?_)
  have hz := hz1.trans hz
  obtain ⟨M1, hM, hP, hF⟩ : ∃ X, bm_M D base X H ∧ bm_MD ct m 0 tr bl np nd f1 f2 f3 f4 g5 g6 f7 g8 g9 g10 g11 g12 g13 g14 g15 f16 g17 X ∧ bm_fr m M X := ⟨_, hM, hP.s_th _, hF.up0⟩
  refine lv_aload_n hx hb dM_number_5 rfl (lv_at hl 0 rfl) ?_
  refine lv_iload_n hx hb dM_number_6 rfl (lv_at hl 1 rfl) ?_
  refine lv_iload_n hx hb dM_number_7 rfl (lv_at hl 2 rfl) ?_
  refine bm_call (va_runV (As := [.int v, .int w]) (rest := []) ⟨hx, hb, hml, hown, hts⟩ (bc_M_noNumber_n2 l D ct base ad M1 sz m 0 tr bl np nd f1 f2 f3 f4 g5 g6 f7 g8 g9 g10 g11 g12 g13 g14 g15 f16 g17 v w hP hv hw) (cwV 2 hts (bm_goodV bw_768 bw_770 bs_16 bw_5 bw_771) rfl rfl rfl (by decide +kernel) (by rw [← hR]; exact ⟨Nat.le_of_ble_eq_true rfl, Nat.le_of_ble_eq_true rfl⟩)) (bm_preV hM hG hS hz hP.c0 rfl) rfl rfl hl.1 rfl (lv_room (Nat.le_of_ble_eq_true rfl)) dM_number_8 (by rw [← hR]; exact ⟨Nat.le_of_ble_eq_true rfl, Nat.le_of_ble_eq_true rfl⟩)) hS (fun v9 M2 H locs hq hM hS _ => ?_)
  obtain ⟨hz, ⟨rfl, hP⟩, hF9⟩ := hq
  have hF := hF.tr hF9
  refine lv_if_eq (tgt := 23) hx hb dM_number_11 rfl (fun h => absurd h (by decide)) (fun _ => ?_)
  refine lv_aload_n hx hb dM_number_14 rfl (lv_at hl 0 rfl) ?_
  refine lv_iconst (v := 1) hx hb dM_number_15 (by decide) ?_
  refine bm_call (va_runV (As := [.int 1]) (rest := []) ⟨hx, hb, hml, hown, hts⟩ (bc_M_fail l D ct base ad M2 sz m 0 tr bl np nd f1 f2 f3 f4 g5 g6 f7 g8 g9 g10 g11 g12 g13 g14 g15 f16 g17 1 hP) (cwV 1 hts (bm_goodV bw_682 bw_684 bs_10 bw_5 bw_685) rfl rfl rfl (by decide +kernel) (by rw [← hR]; exact ⟨Nat.le_of_ble_eq_true rfl, Nat.le_of_ble_eq_true rfl⟩)) (bm_preV hM hG hS hz hP.c0 rfl) rfl rfl hl.1 rfl (lv_room (Nat.le_of_ble_eq_true rfl)) dM_number_16 (by rw [← hR]; exact ⟨Nat.le_of_ble_eq_true rfl, Nat.le_of_ble_eq_true rfl⟩)) hS (fun v9 M3 H locs hq hM hS _ => ?_)
  obtain ⟨hz, ⟨rfl, hP⟩, hF9⟩ := hq
  have hF := hF.tr hF9
  refine lv_i2l (v := 0) hx hb dM_number_19 (by decide) ?_
  refine lv_goto (tgt := 34) hx hb dM_number_20 rfl ?_
  exact bm_lret hQ hx hb hr hlk hM hS ⟨hz, ⟨rfl, hP⟩, hF⟩ (Nat.le_refl _) (Nat.le_refl _) dM_number_34
set_option maxHeartbeats 4000000 in
set_option maxRecDepth 100000 in
theorem bc_M_tamper_n2 (l : Launch) (D : va_G) (ct : Nat → ClassId) (base : Nat) (ad : Nat → Nat) (M : bm_Map) (sz : Nat) (m : Nat) (th : Int32) (tr : Int32) (bl : Int64) (np : Int32) (nd : Int32) (f1 : Nat → Int32) (f2 : Nat → Int32) (f3 : Nat → Int32) (f4 : Nat → Int32) (g5 : Nat → Int64) (g6 : Nat → Int64) (f7 : Nat → Int32) (g8 : Nat → Int64) (g9 : Nat → Int64) (g10 : Nat → Int64) (g11 : Nat → Int64) (g12 : Nat → Int64) (g13 : Nat → Int64) (g14 : Nat → Int64) (g15 : Nat → Int64) (f16 : Nat → Int32) (g17 : Nat → Int64) (v w : Int32) (mask : Int64) (hP : bm_MD ct m th tr bl np nd f1 f2 f3 f4 g5 g6 f7 g8 g9 g10 g11 g12 g13 g14 g15 f16 g17 M) (hv : bm_bl v np = 1) (hw : bm_bl w 16 = 0) : Met l yM_tamper (bm_ws yM_tamper cM_tamper 5 (some .long)) { frames := 2, cells := 0, slots := 0, locals := 43 } (bm_Pre D ct base ad M sz [.ref m, .int v, .int w, .long mask]) (bm_Post D base (bm_Pm m M sz (fun v M1 => v = some (.long 0) ∧ bm_MD ct m 1 tr bl np nd f1 f2 f3 f4 g5 g6 f7 g8 g9 g10 g11 g12 g13 g14 g15 f16 g17 M1))) 0 0 (bm_A base) := by
  refine bm_ofB (cc := cM_tamper) (maxL := 5) (ret := (some .long)) (by decide +kernel) (Nat.le_of_ble_eq_true rfl) ?_
  intro vp ve s vm args below meth vc hx hb hr hlk hts hown hml hnm ls hl hz hM hG R Q hR hQ
  have hown : s.vm.findClass "BlindMintModel" = some vm.cls := hown
  have hK := hG.K
  have hS : va_S (bm_A base) s.heap s.heap [] := va_S.rf
  have hl : lv_has ls 5 [(0, .ref m), (1, .int v), (2, .int w), (3, .long mask)] := hl
  have hF : bm_fr m M M := bm_fr.rf
  refine lv_aload_n hx hb dM_tamper_0 rfl (lv_at hl 0 rfl) ?_
  refine lv_iconst (v := 0) hx hb dM_tamper_1 (by decide) ?_
  refine bm_put (ci := 7) (v := .int 0) (ty := .int) (C := "BlindMintModel") (T := bt_M) (N := 22) hx hb hts bu_M by_M bo_M bn_M hown hK hM hS hP.c0 rfl 0 (by decide) (hts _ bw_602) (fun _ h9 => h9) rfl (by decide +kernel) rfl rfl (Nat.le_of_ble_eq_true rfl) dM_tamper_2 (fun H locs hz1 hM hS => ?_)
  have hz := hz1.trans hz
  obtain ⟨M1, hM, hP, hF⟩ : ∃ X, bm_M D base X H ∧ bm_MD ct m 0 tr bl np nd f1 f2 f3 f4 g5 g6 f7 g8 g9 g10 g11 g12 g13 g14 g15 f16 g17 X ∧ bm_fr m M X := ⟨_, hM, hP.s_th _, hF.up0⟩
  refine lv_aload_n hx hb dM_tamper_5 rfl (lv_at hl 0 rfl) ?_
  refine lv_iload_n hx hb dM_tamper_6 rfl (lv_at hl 1 rfl) ?_
  refine lv_iload_n hx hb dM_tamper_7 rfl (lv_at hl 2 rfl) ?_
  refine bm_call (va_runV (As := [.int v, .int w]) (rest := []) ⟨hx, hb, hml, hown, hts⟩ (bc_M_noNumber_n2 l D ct base ad M1 sz m 0 tr bl np nd f1 f2 f3 f4 g5 g6 f7 g8 g9 g10 g11 g12 g13 g14 g15 f16 g17 v w hP hv hw) (cwV 2 hts (bm_goodV bw_768 bw_770 bs_16 bw_5 bw_771) rfl rfl rfl (by decide +kernel) (by rw [← hR]; exact ⟨Nat.le_of_ble_eq_true rfl, Nat.le_of_ble_eq_true rfl⟩)) (bm_preV hM hG hS hz hP.c0 rfl) rfl rfl hl.1 rfl (lv_room (Nat.le_of_ble_eq_true rfl)) dM_tamper_8 (by rw [← hR]; exact ⟨Nat.le_of_ble_eq_true rfl, Nat.le_of_ble_eq_true rfl⟩)) hS (fun v9 M2 H locs hq hM hS _ => ?_)
  obtain ⟨hz, ⟨rfl, hP⟩, hF9⟩ := hq
  have hF := hF.tr hF9
  refine lv_if_eq (tgt := 21) hx hb dM_tamper_11 rfl (fun h => absurd h (by decide)) (fun _ => ?_)
  refine lv_aload_n hx hb dM_tamper_14 rfl (lv_at hl 0 rfl) ?_
  refine lv_iconst (v := 1) hx hb dM_tamper_15 (by decide) ?_
  refine bm_call (va_runV (As := [.int 1]) (rest := []) ⟨hx, hb, hml, hown, hts⟩ (bc_M_fail l D ct base ad M2 sz m 0 tr bl np nd f1 f2 f3 f4 g5 g6 f7 g8 g9 g10 g11 g12 g13 g14 g15 f16 g17 1 hP) (cwV 1 hts (bm_goodV bw_682 bw_684 bs_10 bw_5 bw_685) rfl rfl rfl (by decide +kernel) (by rw [← hR]; exact ⟨Nat.le_of_ble_eq_true rfl, Nat.le_of_ble_eq_true rfl⟩)) (bm_preV hM hG hS hz hP.c0 rfl) rfl rfl hl.1 rfl (lv_room (Nat.le_of_ble_eq_true rfl)) dM_tamper_16 (by rw [← hR]; exact ⟨Nat.le_of_ble_eq_true rfl, Nat.le_of_ble_eq_true rfl⟩)) hS (fun v9 M3 H locs hq hM hS _ => ?_)
  obtain ⟨hz, ⟨rfl, hP⟩, hF9⟩ := hq
  have hF := hF.tr hF9
  refine lv_i2l (v := 0) hx hb dM_tamper_19 (by decide) ?_
  exact bm_lret hQ hx hb hr hlk hM hS ⟨hz, ⟨rfl, hP⟩, hF⟩ (Nat.le_refl _) (Nat.le_refl _) dM_tamper_20
set_option maxHeartbeats 4000000 in
set_option maxRecDepth 100000 in
theorem bc_M_number_ok (l : Launch) (D : va_G) (ct : Nat → ClassId) (base : Nat) (ad : Nat → Nat) (M : bm_Map) (sz : Nat) (m : Nat) (th : Int32) (tr : Int32) (bl : Int64) (np : Int32) (nd : Int32) (f1 : Nat → Int32) (f2 : Nat → Int32) (f3 : Nat → Int32) (f4 : Nat → Int32) (g5 : Nat → Int64) (g6 : Nat → Int64) (f7 : Nat → Int32) (g8 : Nat → Int64) (g9 : Nat → Int64) (g10 : Nat → Int64) (g11 : Nat → Int64) (g12 : Nat → Int64) (g13 : Nat → Int64) (g14 : Nat → Int64) (g15 : Nat → Int64) (f16 : Nat → Int32) (g17 : Nat → Int64) (k i : Nat) (hP : bm_MD ct m th tr bl np nd f1 f2 f3 f4 g5 g6 f7 g8 g9 g10 g11 g12 g13 g14 g15 f16 g17 M) (hk : k < 20) (hi : i < 16) (hv : bm_bl (nI k) np = 1) : Met l yM_number (bm_ws yM_number cM_number 3 (some .long)) { frames := 2, cells := 0, slots := 0, locals := 43 } (bm_Pre D ct base ad M sz [.ref m, .int (nI k), .int (nI i)]) (bm_Post D base (bm_Pm m M sz (fun v M1 => v = some (.long (g9 (16 * k + i))) ∧ bm_MD ct m 0 tr bl np nd f1 f2 f3 f4 g5 g6 f7 g8 g9 g10 g11 g12 g13 g14 g15 f16 g17 M1))) 0 0 (bm_A base) := by
  refine bm_ofB (cc := cM_number) (maxL := 3) (ret := (some .long)) (by decide +kernel) (Nat.le_of_ble_eq_true rfl) ?_
  intro vp ve s vm args below meth vc hx hb hr hlk hts hown hml hnm ls hl hz hM hG R Q hR hQ
  have hown : s.vm.findClass "BlindMintModel" = some vm.cls := hown
  have hK := hG.K
  have hS : va_S (bm_A base) s.heap s.heap [] := va_S.rf
  have hl : lv_has ls 3 [(0, .ref m), (1, .int (nI k)), (2, .int (nI i))] := hl
  have hF : bm_fr m M M := bm_fr.rf
  refine lv_aload_n hx hb dM_number_0 rfl (lv_at hl 0 rfl) ?_
  refine lv_iconst (v := 0) hx hb dM_number_1 (by decide) ?_
  refine bm_put (ci := 7) (v := .int 0) (ty := .int) (C := "BlindMintModel") (T := bt_M) (N := 22) hx hb hts bu_M by_M bo_M bn_M hown hK hM hS hP.c0 rfl 0 (by decide) (hts _ bw_602) (fun _ h9 => h9) rfl (by decide +kernel) rfl rfl (Nat.le_of_ble_eq_true rfl) dM_number_2 (fun H locs hz1 hM hS => ?_)
  have hz := hz1.trans hz
  obtain ⟨M1, hM, hP, hF⟩ : ∃ X, bm_M D base X H ∧ bm_MD ct m 0 tr bl np nd f1 f2 f3 f4 g5 g6 f7 g8 g9 g10 g11 g12 g13 g14 g15 f16 g17 X ∧ bm_fr m M X := ⟨_, hM, hP.s_th _, hF.up0⟩
  refine lv_aload_n hx hb dM_number_5 rfl (lv_at hl 0 rfl) ?_
  refine lv_iload_n hx hb dM_number_6 rfl (lv_at hl 1 rfl) ?_
  refine lv_iload_n hx hb dM_number_7 rfl (lv_at hl 2 rfl) ?_
  refine bm_call (va_runV (As := [.int (nI k), .int (nI i)]) (rest := []) ⟨hx, hb, hml, hown, hts⟩ (bc_M_noNumber_ok l D ct base ad M1 sz m 0 tr bl np nd f1 f2 f3 f4 g5 g6 f7 g8 g9 g10 g11 g12 g13 g14 g15 f16 g17 k i hP hk hi hv) (cwV 2 hts (bm_goodV bw_768 bw_770 bs_16 bw_5 bw_771) rfl rfl rfl (by decide +kernel) (by rw [← hR]; exact ⟨Nat.le_of_ble_eq_true rfl, Nat.le_of_ble_eq_true rfl⟩)) (bm_preV hM hG hS hz hP.c0 rfl) rfl rfl hl.1 rfl (lv_room (Nat.le_of_ble_eq_true rfl)) dM_number_8 (by rw [← hR]; exact ⟨Nat.le_of_ble_eq_true rfl, Nat.le_of_ble_eq_true rfl⟩)) hS (fun v9 M2 H locs hq hM hS _ => ?_)
  obtain ⟨hz, ⟨rfl, hP⟩, hF9⟩ := hq
  have hF := hF.tr hF9
  refine lv_if_eq (tgt := 23) hx hb dM_number_11 rfl (fun _ => ?_) (fun h => absurd h (by decide))
  refine lv_aload_n hx hb dM_number_23 rfl (lv_at hl 0 rfl) ?_
  refine bm_get (ci := 7) (v := .ref (m + 9)) (C := "BlindMintModel") (T := bt_M) (N := 22) hx hb hts bu_M hown hK hM hP.c0 rfl 12 (by decide) (hts _ bw_614) (fun _ h9 => h9) rfl dM_number_24 ?_
  refine lv_bipush (v := 16) hx hb dM_number_27 (by decide) ?_
  refine lv_iload_n hx hb dM_number_29 rfl (lv_at hl 1 rfl) ?_
  refine lv_imul hx hb dM_number_30 ?_
  refine lv_iload_n hx hb dM_number_31 rfl (lv_at hl 2 rfl) ?_
  refine lv_iadd hx hb dM_number_32 ?_
  refine bm_lald hx hb hK hM 1 hP.c9 rfl (16 * k + i) (bm_ixm (c := 16) (by omega)) (by omega) dM_number_33 ?_
  exact bm_lret hQ hx hb hr hlk hM hS ⟨hz, ⟨rfl, hP⟩, hF⟩ (Nat.le_refl _) (Nat.le_refl _) dM_number_34
set_option maxHeartbeats 4000000 in
set_option maxRecDepth 100000 in
theorem bc_M_tamper_ok (l : Launch) (D : va_G) (ct : Nat → ClassId) (base : Nat) (ad : Nat → Nat) (M : bm_Map) (sz : Nat) (m : Nat) (th : Int32) (tr : Int32) (bl : Int64) (np : Int32) (nd : Int32) (f1 : Nat → Int32) (f2 : Nat → Int32) (f3 : Nat → Int32) (f4 : Nat → Int32) (g5 : Nat → Int64) (g6 : Nat → Int64) (f7 : Nat → Int32) (g8 : Nat → Int64) (g9 : Nat → Int64) (g10 : Nat → Int64) (g11 : Nat → Int64) (g12 : Nat → Int64) (g13 : Nat → Int64) (g14 : Nat → Int64) (g15 : Nat → Int64) (f16 : Nat → Int32) (g17 : Nat → Int64) (k i : Nat) (mask : Int64) (hP : bm_MD ct m th tr bl np nd f1 f2 f3 f4 g5 g6 f7 g8 g9 g10 g11 g12 g13 g14 g15 f16 g17 M) (hk : k < 20) (hi : i < 16) (hv : bm_bl (nI k) np = 1) : Met l yM_tamper (bm_ws yM_tamper cM_tamper 5 (some .long)) { frames := 2, cells := 0, slots := 0, locals := 43 } (bm_Pre D ct base ad M sz [.ref m, .int (nI k), .int (nI i), .long mask]) (bm_Post D base (bm_Pm m M sz (fun v M1 => v = some (.long (g9 (16 * k + i) ^^^ mask)) ∧ bm_MD ct m 0 tr bl np nd f1 f2 f3 f4 g5 g6 f7 g8 (vp_updL g9 (16 * k + i) (g9 (16 * k + i) ^^^ mask)) g10 g11 g12 g13 g14 g15 f16 g17 M1))) 0 0 (bm_A base) := by
  refine bm_ofB (cc := cM_tamper) (maxL := 5) (ret := (some .long)) (by decide +kernel) (Nat.le_of_ble_eq_true rfl) ?_
  intro vp ve s vm args below meth vc hx hb hr hlk hts hown hml hnm ls hl hz hM hG R Q hR hQ
  have hown : s.vm.findClass "BlindMintModel" = some vm.cls := hown
  have hK := hG.K
  have hS : va_S (bm_A base) s.heap s.heap [] := va_S.rf
  have hl : lv_has ls 5 [(0, .ref m), (1, .int (nI k)), (2, .int (nI i)), (3, .long mask)] := hl
  have hF : bm_fr m M M := bm_fr.rf
  refine lv_aload_n hx hb dM_tamper_0 rfl (lv_at hl 0 rfl) ?_
  refine lv_iconst (v := 0) hx hb dM_tamper_1 (by decide) ?_
  refine bm_put (ci := 7) (v := .int 0) (ty := .int) (C := "BlindMintModel") (T := bt_M) (N := 22) hx hb hts bu_M by_M bo_M bn_M hown hK hM hS hP.c0 rfl 0 (by decide) (hts _ bw_602) (fun _ h9 => h9) rfl (by decide +kernel) rfl rfl (Nat.le_of_ble_eq_true rfl) dM_tamper_2 (fun H locs hz1 hM hS => ?_)
  have hz := hz1.trans hz
  obtain ⟨M1, hM, hP, hF⟩ : ∃ X, bm_M D base X H ∧ bm_MD ct m 0 tr bl np nd f1 f2 f3 f4 g5 g6 f7 g8 g9 g10 g11 g12 g13 g14 g15 f16 g17 X ∧ bm_fr m M X := ⟨_, hM, hP.s_th _, hF.up0⟩
  refine lv_aload_n hx hb dM_tamper_5 rfl (lv_at hl 0 rfl) ?_
  refine lv_iload_n hx hb dM_tamper_6 rfl (lv_at hl 1 rfl) ?_
  refine lv_iload_n hx hb dM_tamper_7 rfl (lv_at hl 2 rfl) ?_
  refine bm_call (va_runV (As := [.int (nI k), .int (nI i)]) (rest := []) ⟨hx, hb, hml, hown, hts⟩ (bc_M_noNumber_ok l D ct base ad M1 sz m 0 tr bl np nd f1 f2 f3 f4 g5 g6 f7 g8 g9 g10 g11 g12 g13 g14 g15 f16 g17 k i hP hk hi hv) (cwV 2 hts (bm_goodV bw_768 bw_770 bs_16 bw_5 bw_771) rfl rfl rfl (by decide +kernel) (by rw [← hR]; exact ⟨Nat.le_of_ble_eq_true rfl, Nat.le_of_ble_eq_true rfl⟩)) (bm_preV hM hG hS hz hP.c0 rfl) rfl rfl hl.1 rfl (lv_room (Nat.le_of_ble_eq_true rfl)) dM_tamper_8 (by rw [← hR]; exact ⟨Nat.le_of_ble_eq_true rfl, Nat.le_of_ble_eq_true rfl⟩)) hS (fun v9 M2 H locs hq hM hS _ => ?_)
  obtain ⟨hz, ⟨rfl, hP⟩, hF9⟩ := hq
  have hF := hF.tr hF9
  refine lv_if_eq (tgt := 21) hx hb dM_tamper_11 rfl (fun _ => ?_) (fun h => absurd h (by decide))
  refine lv_aload_n hx hb dM_tamper_21 rfl (lv_at hl 0 rfl) ?_
  refine bm_get (ci := 7) (v := .ref (m + 9)) (C := "BlindMintModel") (T := bt_M) (N := 22) hx hb hts bu_M hown hK hM hP.c0 rfl 12 (by decide) (hts _ bw_614) (fun _ h9 => h9) rfl dM_tamper_22 ?_
  refine lv_bipush (v := 16) hx hb dM_tamper_25 (by decide) ?_
  refine lv_iload_n hx hb dM_tamper_27 rfl (lv_at hl 1 rfl) ?_
  refine lv_imul hx hb dM_tamper_28 ?_
  refine lv_iload_n hx hb dM_tamper_29 rfl (lv_at hl 2 rfl) ?_
  refine lv_iadd hx hb dM_tamper_30 ?_
  refine lv_dup2_11 hx hb dM_tamper_31 rfl rfl ?_
  refine bm_lald hx hb hK hM 1 hP.c9 rfl (16 * k + i) (bm_ixm (c := 16) (by omega)) (by omega) dM_tamper_32 ?_
  refine lv_lload_n hx hb dM_tamper_33 rfl (lv_at hl 3 rfl) ?_
  refine lv_lxor hx hb dM_tamper_34 ?_
  refine bm_last hx hb hK hM hS 1 hP.c9 rfl (16 * k + i) (bm_ixm (c := 16) (by omega)) (by omega) dM_tamper_35 (fun H locs hz1 hM hS => ?_)
  have hz := hz1.trans hz
  obtain ⟨M3, hM, hP, hF⟩ : ∃ X, bm_M D base X H ∧ bm_MD ct m 0 tr bl np nd f1 f2 f3 f4 g5 g6 f7 g8 (vp_updL g9 (16 * k + i) ((g9 (16 * k + i)) ^^^ mask)) g10 g11 g12 g13 g14 g15 f16 g17 X ∧ bm_fr m M X := ⟨_, hM, hP.s9 _, hF.up (by decide)⟩
  refine lv_aload_n hx hb dM_tamper_36 rfl (lv_at hl 0 rfl) ?_
  refine bm_get (ci := 7) (v := .ref (m + 9)) (C := "BlindMintModel") (T := bt_M) (N := 22) hx hb hts bu_M hown hK hM hP.c0 rfl 12 (by decide) (hts _ bw_614) (fun _ h9 => h9) rfl dM_tamper_37 ?_
  refine lv_bipush (v := 16) hx hb dM_tamper_40 (by decide) ?_
  refine lv_iload_n hx hb dM_tamper_42 rfl (lv_at hl 1 rfl) ?_
  refine lv_imul hx hb dM_tamper_43 ?_
  refine lv_iload_n hx hb dM_tamper_44 rfl (lv_at hl 2 rfl) ?_
  refine lv_iadd hx hb dM_tamper_45 ?_
  refine bm_lald hx hb hK hM 1 hP.c9 rfl (16 * k + i) (bm_ixm (c := 16) (by omega)) (by omega) dM_tamper_46 ?_
  refine lv_topl (fun t4 e_t4 => ?_)
  have e_t4 : t4 = g9 (16 * k + i) ^^^ mask := by rw [e_t4]; exact pk_uLs
  subst e_t4
  exact bm_lret hQ hx hb hr hlk hM hS ⟨hz, ⟨rfl, hP⟩, hF⟩ (Nat.le_refl _) (Nat.le_refl _) dM_tamper_47
set_option maxHeartbeats 4000000 in
set_option maxRecDepth 100000 in
theorem bc_M_numberOf (l : Launch) (D : va_G) (ct : Nat → ClassId) (base : Nat) (ad : Nat → Nat) (M : bm_Map) (sz : Nat) (m : Nat) (th : Int32) (tr : Int32) (bl : Int64) (np : Int32) (nd : Int32) (f1 : Nat → Int32) (f2 : Nat → Int32) (f3 : Nat → Int32) (f4 : Nat → Int32) (g5 : Nat → Int64) (g6 : Nat → Int64) (f7 : Nat → Int32) (g8 : Nat → Int64) (g9 : Nat → Int64) (g10 : Nat → Int64) (g11 : Nat → Int64) (g12 : Nat → Int64) (g13 : Nat → Int64) (g14 : Nat → Int64) (g15 : Nat → Int64) (f16 : Nat → Int32) (g17 : Nat → Int64) (d : Int64) (hP : bm_MD ct m th tr bl np nd f1 f2 f3 f4 g5 g6 f7 g8 g9 g10 g11 g12 g13 g14 g15 f16 g17 M) : Met l yM_numberOf (bm_ws yM_numberOf cM_numberOf 6 (some .long)) { frames := 1, cells := 0, slots := 0, locals := 25 } (bm_Pre D ct base ad M sz [.ref m, .long d]) (bm_Post D base (bm_Pm m M sz (fun v M1 => v = some (.long (bm_hc d g17)) ∧ bm_MD ct m th tr bl np nd f1 f2 f3 f4 g5 g6 f7 g8 g9 g10 g11 g12 g13 g14 g15 f16 g17 M1))) 0 0 (bm_A base) := by
  refine bm_ofB (cc := cM_numberOf) (maxL := 6) (ret := (some .long)) (by decide +kernel) (Nat.le_of_ble_eq_true rfl) ?_
  intro vp ve s vm args below meth vc hx hb hr hlk hts hown hml hnm ls hl hz hM hG R Q hR hQ
  have hown : s.vm.findClass "BlindMintModel" = some vm.cls := hown
  have hK := hG.K
  have hS : va_S (bm_A base) s.heap s.heap [] := va_S.rf
  have hl : lv_has ls 6 [(0, .ref m), (1, .long d)] := hl
  have hF : bm_fr m M M := bm_fr.rf
  refine lv_ldc2 hx hb hown (hts _ bw_697) dM_numberOf_0 ?_
  refine lv_lload_n hx hb dM_numberOf_3 rfl (lv_at hl 1 rfl) ?_
  refine bm_callE (va_runS (As := [.long 7, .long d]) (rest := []) ⟨hx, hb, hml, hown, hts⟩ (bc_M_absorb l D ct base ad M sz 7 d) (va_cwS 2 hts (bm_goodS bw_698 bw_699 bw_5 bw_700) rfl rfl rfl (by decide +kernel) (by rw [← hR]; exact ⟨Nat.le_of_ble_eq_true rfl, Nat.le_of_ble_eq_true rfl⟩)) (bm_preS hM hG hS hz) rfl rfl hl.1 rfl (lv_room (Nat.le_of_ble_eq_true rfl)) dM_numberOf_4 (by rw [← hR]; exact ⟨Nat.le_of_ble_eq_true rfl, Nat.le_of_ble_eq_true rfl⟩)) hS (fun H locs hz hM hS => ?_)
  refine lv_lstore_n hx hb dM_numberOf_7 rfl hl (by decide) rfl (fun ls hl => ?_)
  have hl : lv_has ls 6 [(3, .long (bm_step 7 d)), (0, .ref m), (1, .long d)] := hl
  refine lv_iconst (v := 0) hx hb dM_numberOf_8 (by decide) ?_
  refine lv_istore hx hb dM_numberOf_9 hl (by decide) rfl (fun ls hl => ?_)
  have hl : lv_has ls 6 [(5, .int 0), (3, .long (bm_step 7 d)), (0, .ref m), (1, .long d)] := hl
  refine lv_iload hx hb dM_numberOf_11 (lv_at hl 0 rfl) ?_
  refine lv_iconst (v := 4) hx hb dM_numberOf_13 (by decide) ?_
  refine lv_icmp_ge (tgt := 35) hx hb dM_numberOf_14 rfl (fun h => absurd h (by decide)) (fun _ => ?_)
  refine lv_lload_n hx hb dM_numberOf_17 rfl (lv_at hl 1 rfl) ?_
  refine lv_aload_n hx hb dM_numberOf_18 rfl (lv_at hl 2 rfl) ?_
  refine bm_get (ci := 7) (v := .ref (m + 17)) (C := "BlindMintModel") (T := bt_M) (N := 22) hx hb hts bu_M hown hK hM hP.c0 rfl 21 (by decide) (hts _ bw_623) (fun _ h9 => h9) rfl dM_numberOf_19 ?_
  refine lv_iload hx hb dM_numberOf_22 (lv_at hl 0 rfl) ?_
  refine bm_lald hx hb hK hM 1 hP.c17 rfl 0 (bm_ix_nI (k := 0) (by decide)) (by decide) dM_numberOf_24 ?_
  refine bm_callE (va_runS (As := [.long (bm_step 7 d), .long (g17 0)]) (rest := []) ⟨hx, hb, hml, hown, hts⟩ (bc_M_absorb l D ct base ad M sz (bm_step 7 d) (g17 0)) (va_cwS 2 hts (bm_goodS bw_698 bw_699 bw_5 bw_700) rfl rfl rfl (by decide +kernel) (by rw [← hR]; exact ⟨Nat.le_of_ble_eq_true rfl, Nat.le_of_ble_eq_true rfl⟩)) (bm_preS hM hG hS hz) rfl rfl hl.1 rfl (lv_room (Nat.le_of_ble_eq_true rfl)) dM_numberOf_25 (by rw [← hR]; exact ⟨Nat.le_of_ble_eq_true rfl, Nat.le_of_ble_eq_true rfl⟩)) hS (fun H locs hz hM hS => ?_)
  refine lv_lstore_n hx hb dM_numberOf_28 rfl hl (by decide) rfl (fun ls hl => ?_)
  have hl : lv_has ls 6 [(3, .long (bm_step (bm_step 7 d) (g17 0))), (5, .int 0), (0, .ref m), (1, .long d)] := hl
  refine lv_iinc (v := 1) (k := 1) hx hb dM_numberOf_29 hl rfl (by decide) (by decide) rfl (fun ls hl => ?_)
  have hl : lv_has ls 6 [(5, .int 1), (3, .long (bm_step (bm_step 7 d) (g17 0))), (0, .ref m), (1, .long d)] := hl
  refine lv_goto (tgt := 11) hx hb dM_numberOf_32 rfl ?_
  refine lv_iload hx hb dM_numberOf_11 (lv_at hl 0 rfl) ?_
  refine lv_iconst (v := 4) hx hb dM_numberOf_13 (by decide) ?_
  refine lv_icmp_ge (tgt := 35) hx hb dM_numberOf_14 rfl (fun h => absurd h (by decide)) (fun _ => ?_)
  refine lv_lload_n hx hb dM_numberOf_17 rfl (lv_at hl 1 rfl) ?_
  refine lv_aload_n hx hb dM_numberOf_18 rfl (lv_at hl 2 rfl) ?_
  refine bm_get (ci := 7) (v := .ref (m + 17)) (C := "BlindMintModel") (T := bt_M) (N := 22) hx hb hts bu_M hown hK hM hP.c0 rfl 21 (by decide) (hts _ bw_623) (fun _ h9 => h9) rfl dM_numberOf_19 ?_
  refine lv_iload hx hb dM_numberOf_22 (lv_at hl 0 rfl) ?_
  refine bm_lald hx hb hK hM 1 hP.c17 rfl 1 (bm_ix_nI (k := 1) (by decide)) (by decide) dM_numberOf_24 ?_
  refine bm_callE (va_runS (As := [.long (bm_step (bm_step 7 d) (g17 0)), .long (g17 1)]) (rest := []) ⟨hx, hb, hml, hown, hts⟩ (bc_M_absorb l D ct base ad M sz (bm_step (bm_step 7 d) (g17 0)) (g17 1)) (va_cwS 2 hts (bm_goodS bw_698 bw_699 bw_5 bw_700) rfl rfl rfl (by decide +kernel) (by rw [← hR]; exact ⟨Nat.le_of_ble_eq_true rfl, Nat.le_of_ble_eq_true rfl⟩)) (bm_preS hM hG hS hz) rfl rfl hl.1 rfl (lv_room (Nat.le_of_ble_eq_true rfl)) dM_numberOf_25 (by rw [← hR]; exact ⟨Nat.le_of_ble_eq_true rfl, Nat.le_of_ble_eq_true rfl⟩)) hS (fun H locs hz hM hS => ?_)
  refine lv_lstore_n hx hb dM_numberOf_28 rfl hl (by decide) rfl (fun ls hl => ?_)
  have hl : lv_has ls 6 [(3, .long (bm_step (bm_step (bm_step 7 d) (g17 0)) (g17 1))), (5, .int 1), (0, .ref m), (1, .long d)] := hl
  refine lv_iinc (v := 2) (k := 1) hx hb dM_numberOf_29 hl rfl (by decide) (by decide) rfl (fun ls hl => ?_)
  have hl : lv_has ls 6 [(5, .int 2), (3, .long (bm_step (bm_step (bm_step 7 d) (g17 0)) (g17 1))), (0, .ref m), (1, .long d)] := hl
  refine lv_goto (tgt := 11) hx hb dM_numberOf_32 rfl ?_
  refine lv_iload hx hb dM_numberOf_11 (lv_at hl 0 rfl) ?_
  refine lv_iconst (v := 4) hx hb dM_numberOf_13 (by decide) ?_
  refine lv_icmp_ge (tgt := 35) hx hb dM_numberOf_14 rfl (fun h => absurd h (by decide)) (fun _ => ?_)
  refine lv_lload_n hx hb dM_numberOf_17 rfl (lv_at hl 1 rfl) ?_
  refine lv_aload_n hx hb dM_numberOf_18 rfl (lv_at hl 2 rfl) ?_
  refine bm_get (ci := 7) (v := .ref (m + 17)) (C := "BlindMintModel") (T := bt_M) (N := 22) hx hb hts bu_M hown hK hM hP.c0 rfl 21 (by decide) (hts _ bw_623) (fun _ h9 => h9) rfl dM_numberOf_19 ?_
  refine lv_iload hx hb dM_numberOf_22 (lv_at hl 0 rfl) ?_
  refine bm_lald hx hb hK hM 1 hP.c17 rfl 2 (bm_ix_nI (k := 2) (by decide)) (by decide) dM_numberOf_24 ?_
  refine bm_callE (va_runS (As := [.long (bm_step (bm_step (bm_step 7 d) (g17 0)) (g17 1)), .long (g17 2)]) (rest := []) ⟨hx, hb, hml, hown, hts⟩ (bc_M_absorb l D ct base ad M sz (bm_step (bm_step (bm_step 7 d) (g17 0)) (g17 1)) (g17 2)) (va_cwS 2 hts (bm_goodS bw_698 bw_699 bw_5 bw_700) rfl rfl rfl (by decide +kernel) (by rw [← hR]; exact ⟨Nat.le_of_ble_eq_true rfl, Nat.le_of_ble_eq_true rfl⟩)) (bm_preS hM hG hS hz) rfl rfl hl.1 rfl (lv_room (Nat.le_of_ble_eq_true rfl)) dM_numberOf_25 (by rw [← hR]; exact ⟨Nat.le_of_ble_eq_true rfl, Nat.le_of_ble_eq_true rfl⟩)) hS (fun H locs hz hM hS => ?_)
  refine lv_lstore_n hx hb dM_numberOf_28 rfl hl (by decide) rfl (fun ls hl => ?_)
  have hl : lv_has ls 6 [(3, .long (bm_step (bm_step (bm_step (bm_step 7 d) (g17 0)) (g17 1)) (g17 2))), (5, .int 2), (0, .ref m), (1, .long d)] := hl
  refine lv_iinc (v := 3) (k := 1) hx hb dM_numberOf_29 hl rfl (by decide) (by decide) rfl (fun ls hl => ?_)
  have hl : lv_has ls 6 [(5, .int 3), (3, .long (bm_step (bm_step (bm_step (bm_step 7 d) (g17 0)) (g17 1)) (g17 2))), (0, .ref m), (1, .long d)] := hl
  refine lv_goto (tgt := 11) hx hb dM_numberOf_32 rfl ?_
  refine lv_iload hx hb dM_numberOf_11 (lv_at hl 0 rfl) ?_
  refine lv_iconst (v := 4) hx hb dM_numberOf_13 (by decide) ?_
  refine lv_icmp_ge (tgt := 35) hx hb dM_numberOf_14 rfl (fun h => absurd h (by decide)) (fun _ => ?_)
  refine lv_lload_n hx hb dM_numberOf_17 rfl (lv_at hl 1 rfl) ?_
  refine lv_aload_n hx hb dM_numberOf_18 rfl (lv_at hl 2 rfl) ?_
  refine bm_get (ci := 7) (v := .ref (m + 17)) (C := "BlindMintModel") (T := bt_M) (N := 22) hx hb hts bu_M hown hK hM hP.c0 rfl 21 (by decide) (hts _ bw_623) (fun _ h9 => h9) rfl dM_numberOf_19 ?_
  refine lv_iload hx hb dM_numberOf_22 (lv_at hl 0 rfl) ?_
  refine bm_lald hx hb hK hM 1 hP.c17 rfl 3 (bm_ix_nI (k := 3) (by decide)) (by decide) dM_numberOf_24 ?_
  refine bm_callE (va_runS (As := [.long (bm_step (bm_step (bm_step (bm_step 7 d) (g17 0)) (g17 1)) (g17 2)), .long (g17 3)]) (rest := []) ⟨hx, hb, hml, hown, hts⟩ (bc_M_absorb l D ct base ad M sz (bm_step (bm_step (bm_step (bm_step 7 d) (g17 0)) (g17 1)) (g17 2)) (g17 3)) (va_cwS 2 hts (bm_goodS bw_698 bw_699 bw_5 bw_700) rfl rfl rfl (by decide +kernel) (by rw [← hR]; exact ⟨Nat.le_of_ble_eq_true rfl, Nat.le_of_ble_eq_true rfl⟩)) (bm_preS hM hG hS hz) rfl rfl hl.1 rfl (lv_room (Nat.le_of_ble_eq_true rfl)) dM_numberOf_25 (by rw [← hR]; exact ⟨Nat.le_of_ble_eq_true rfl, Nat.le_of_ble_eq_true rfl⟩)) hS (fun H locs hz hM hS => ?_)
  refine lv_lstore_n hx hb dM_numberOf_28 rfl hl (by decide) rfl (fun ls hl => ?_)
  have hl : lv_has ls 6 [(3, .long (bm_step (bm_step (bm_step (bm_step (bm_step 7 d) (g17 0)) (g17 1)) (g17 2)) (g17 3))), (5, .int 3), (0, .ref m), (1, .long d)] := hl
  refine lv_iinc (v := 4) (k := 1) hx hb dM_numberOf_29 hl rfl (by decide) (by decide) rfl (fun ls hl => ?_)
  have hl : lv_has ls 6 [(5, .int 4), (3, .long (bm_step (bm_step (bm_step (bm_step (bm_step 7 d) (g17 0)) (g17 1)) (g17 2)) (g17 3))), (0, .ref m), (1, .long d)] := hl
  refine lv_goto (tgt := 11) hx hb dM_numberOf_32 rfl ?_
  refine lv_iload hx hb dM_numberOf_11 (lv_at hl 0 rfl) ?_
  refine lv_iconst (v := 4) hx hb dM_numberOf_13 (by decide) ?_
  refine lv_icmp_ge (tgt := 35) hx hb dM_numberOf_14 rfl (fun _ => ?_) (fun h => absurd h (by decide))
  refine lv_lload_n hx hb dM_numberOf_35 rfl (lv_at hl 1 rfl) ?_
  refine bm_callE (va_runS (As := [.long (bm_step (bm_step (bm_step (bm_step (bm_step 7 d) (g17 0)) (g17 1)) (g17 2)) (g17 3))]) (rest := []) ⟨hx, hb, hml, hown, hts⟩ (bc_M_low l D ct base ad M sz (bm_step (bm_step (bm_step (bm_step (bm_step 7 d) (g17 0)) (g17 1)) (g17 2)) (g17 3))) (va_cwS 1 hts (bm_goodS bw_703 bw_704 bw_5 bw_705) rfl rfl rfl (by decide +kernel) (by rw [← hR]; exact ⟨Nat.le_of_ble_eq_true rfl, Nat.le_of_ble_eq_true rfl⟩)) (bm_preS hM hG hS hz) rfl rfl hl.1 rfl (lv_room (Nat.le_of_ble_eq_true rfl)) dM_numberOf_36 (by rw [← hR]; exact ⟨Nat.le_of_ble_eq_true rfl, Nat.le_of_ble_eq_true rfl⟩)) hS (fun H locs hz hM hS => ?_)
  exact bm_lret hQ hx hb hr hlk hM hS ⟨hz, ⟨rfl, hP⟩, hF⟩ (Nat.le_refl _) (Nat.le_refl _) dM_numberOf_39
set_option maxHeartbeats 4000000 in
set_option maxRecDepth 100000 in
theorem bc_M_choiceOf (l : Launch) (D : va_G) (ct : Nat → ClassId) (base : Nat) (ad : Nat → Nat) (M : bm_Map) (sz : Nat) (m : Nat) (th : Int32) (tr : Int32) (bl : Int64) (np : Int32) (nd : Int32) (f1 : Nat → Int32) (f2 : Nat → Int32) (f3 : Nat → Int32) (f4 : Nat → Int32) (g5 : Nat → Int64) (g6 : Nat → Int64) (f7 : Nat → Int32) (g8 : Nat → Int64) (g9 : Nat → Int64) (g10 : Nat → Int64) (g11 : Nat → Int64) (g12 : Nat → Int64) (g13 : Nat → Int64) (g14 : Nat → Int64) (g15 : Nat → Int64) (f16 : Nat → Int32) (g17 : Nat → Int64) (k : Nat) (hP : bm_MD ct m th tr bl np nd f1 f2 f3 f4 g5 g6 f7 g8 g9 g10 g11 g12 g13 g14 g15 f16 g17 M) (hk : k < 20) : Met l yM_choiceOf (bm_ws yM_choiceOf cM_choiceOf 2 (some .long)) { frames := 2, cells := 0, slots := 0, locals := 50 } (bm_Pre D ct base ad M sz [.ref m, .int (nI k)]) (bm_Post D base (bm_Pm m M sz (fun v M1 => v = some (.long (bm_ch g9 k)) ∧ bm_MD ct m th tr bl np nd f1 f2 f3 f4 g5 g6 f7 g8 g9 g10 g11 g12 g13 g14 g15 f16 g17 M1))) 0 0 (bm_A base) := by
  refine bm_ofB (cc := cM_choiceOf) (maxL := 2) (ret := (some .long)) (by decide +kernel) (Nat.le_of_ble_eq_true rfl) ?_
  intro vp ve s vm args below meth vc hx hb hr hlk hts hown hml hnm ls hl hz hM hG R Q hR hQ
  have hown : s.vm.findClass "BlindMintModel" = some vm.cls := hown
  have hK := hG.K
  have hS : va_S (bm_A base) s.heap s.heap [] := va_S.rf
  have hl : lv_has ls 2 [(0, .ref m), (1, .int (nI k))] := hl
  have hF : bm_fr m M M := bm_fr.rf
  refine lv_aload_n hx hb dM_choiceOf_0 rfl (lv_at hl 0 rfl) ?_
  refine bm_get (ci := 7) (v := .ref (m + 9)) (C := "BlindMintModel") (T := bt_M) (N := 22) hx hb hts bu_M hown hK hM hP.c0 rfl 12 (by decide) (hts _ bw_614) (fun _ h9 => h9) rfl dM_choiceOf_1 ?_
  refine lv_bipush (v := 16) hx hb dM_choiceOf_4 (by decide) ?_
  refine lv_iload_n hx hb dM_choiceOf_6 rfl (lv_at hl 1 rfl) ?_
  refine lv_imul hx hb dM_choiceOf_7 ?_
  refine lv_iconst (v := 2) hx hb dM_choiceOf_8 (by decide) ?_
  refine lv_iadd hx hb dM_choiceOf_9 ?_
  refine bm_lald hx hb hK hM 1 hP.c9 rfl (16 * k + 2) (bm_ixm (c := 16) (i := 2) (by omega)) (by omega) dM_choiceOf_10 ?_
  refine lv_aload_n hx hb dM_choiceOf_11 rfl (lv_at hl 0 rfl) ?_
  refine bm_get (ci := 7) (v := .ref (m + 9)) (C := "BlindMintModel") (T := bt_M) (N := 22) hx hb hts bu_M hown hK hM hP.c0 rfl 12 (by decide) (hts _ bw_614) (fun _ h9 => h9) rfl dM_choiceOf_12 ?_
  refine lv_bipush (v := 16) hx hb dM_choiceOf_15 (by decide) ?_
  refine lv_iload_n hx hb dM_choiceOf_17 rfl (lv_at hl 1 rfl) ?_
  refine lv_imul hx hb dM_choiceOf_18 ?_
  refine lv_iconst (v := 3) hx hb dM_choiceOf_19 (by decide) ?_
  refine lv_iadd hx hb dM_choiceOf_20 ?_
  refine bm_lald hx hb hK hM 1 hP.c9 rfl (16 * k + 3) (bm_ixm (c := 16) (i := 3) (by omega)) (by omega) dM_choiceOf_21 ?_
  refine lv_aload_n hx hb dM_choiceOf_22 rfl (lv_at hl 0 rfl) ?_
  refine bm_get (ci := 7) (v := .ref (m + 9)) (C := "BlindMintModel") (T := bt_M) (N := 22) hx hb hts bu_M hown hK hM hP.c0 rfl 12 (by decide) (hts _ bw_614) (fun _ h9 => h9) rfl dM_choiceOf_23 ?_
  refine lv_bipush (v := 16) hx hb dM_choiceOf_26 (by decide) ?_
  refine lv_iload_n hx hb dM_choiceOf_28 rfl (lv_at hl 1 rfl) ?_
  refine lv_imul hx hb dM_choiceOf_29 ?_
  refine lv_iconst (v := 1) hx hb dM_choiceOf_30 (by decide) ?_
  refine lv_iadd hx hb dM_choiceOf_31 ?_
  refine bm_lald hx hb hK hM 1 hP.c9 rfl (16 * k + 1) (bm_ixm (c := 16) (i := 1) (by omega)) (by omega) dM_choiceOf_32 ?_
  refine bm_callE (va_runS (As := [.long (g9 (16 * k + 2)), .long (g9 (16 * k + 3)), .long (g9 (16 * k + 1))]) (rest := []) ⟨hx, hb, hml, hown, hts⟩ (bc_M_hash3 l D ct base ad M sz (g9 (16 * k + 2)) (g9 (16 * k + 3)) (g9 (16 * k + 1))) (va_cwS 3 hts (bm_goodS bw_761 bw_762 bw_5 bw_763) rfl rfl rfl (by decide +kernel) (by rw [← hR]; exact ⟨Nat.le_of_ble_eq_true rfl, Nat.le_of_ble_eq_true rfl⟩)) (bm_preS hM hG hS hz) rfl rfl hl.1 rfl (lv_room (Nat.le_of_ble_eq_true rfl)) dM_choiceOf_33 (by rw [← hR]; exact ⟨Nat.le_of_ble_eq_true rfl, Nat.le_of_ble_eq_true rfl⟩)) hS (fun H locs hz hM hS => ?_)
  exact bm_lret hQ hx hb hr hlk hM hS ⟨hz, ⟨rfl, hP⟩, hF⟩ (Nat.le_refl _) (Nat.le_refl _) dM_choiceOf_36
end
