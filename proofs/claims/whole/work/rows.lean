section
-- ===== PART A: goes FIRST, ahead of the names: the tables' words, and 'selects' of the private methods out of them =====
/-- a private method of a class that the tables say can be made, by its rows of tables_1 -/
def lw_okq (q : MethodName × Nat) : Prop := (q.1.cls ≠ "java/lang/invoke/MethodHandle" ∧ q.1.cls ≠ "java/lang/invoke/VarHandle") ∧ Cond.instantiable q.1.cls q.2 ∈ tables_1 ∧ Cond.privateMethod q.1 ∈ tables_1 ∧ Cond.instanceMethod q.1 ∈ tables_1
theorem lw_p0 : lw_okq (⟨"BlindMint", "findPayment", "(I)LBlindMint$Payment;"⟩, 12) := ⟨⟨by decide +kernel, by decide +kernel⟩, List.mem_of_getElem? (i := 20) (by decide +kernel), List.mem_of_getElem? (i := 151) (by decide +kernel), List.mem_of_getElem? (i := 152) (by decide +kernel)⟩
theorem lw_p1 : lw_okq (⟨"BlindMint", "isGood", "(LBlindMint$Payment;)Z"⟩, 12) := ⟨⟨by decide +kernel, by decide +kernel⟩, List.mem_of_getElem? (i := 20) (by decide +kernel), List.mem_of_getElem? (i := 155) (by decide +kernel), List.mem_of_getElem? (i := 156) (by decide +kernel)⟩
theorem lw_p2 : lw_okq (⟨"java/lang/Throwable", "fillInStackTrace", "(I)Ljava/lang/Throwable;"⟩, 6) := ⟨⟨by decide +kernel, by decide +kernel⟩, List.mem_of_getElem? (i := 280) (by decide +kernel), List.mem_of_getElem? (i := 278) (by decide +kernel), List.mem_of_getElem? (i := 279) (by decide +kernel)⟩
theorem lw_p3 : lw_okq (⟨"BlindMint$Proposal", "open", "()V"⟩, 4) := ⟨⟨by decide +kernel, by decide +kernel⟩, List.mem_of_getElem? (i := 30) (by decide +kernel), List.mem_of_getElem? (i := 333) (by decide +kernel), List.mem_of_getElem? (i := 334) (by decide +kernel)⟩
theorem lw_p4 : lw_okq (⟨"BlindMint$Proposal", "sortParts", "()V"⟩, 4) := ⟨⟨by decide +kernel, by decide +kernel⟩, List.mem_of_getElem? (i := 30) (by decide +kernel), List.mem_of_getElem? (i := 342) (by decide +kernel), List.mem_of_getElem? (i := 343) (by decide +kernel)⟩
theorem lw_p5 : lw_okq (⟨"BlindMint$Proposal", "insertPart", "(LBlindMint$Candidate;I)V"⟩, 4) := ⟨⟨by decide +kernel, by decide +kernel⟩, List.mem_of_getElem? (i := 30) (by decide +kernel), List.mem_of_getElem? (i := 346) (by decide +kernel), List.mem_of_getElem? (i := 347) (by decide +kernel)⟩
theorem lw_p6 : lw_okq (⟨"BlindMint", "makeCoin", "(IJ)LBlindMint$Coin;"⟩, 12) := ⟨⟨by decide +kernel, by decide +kernel⟩, List.mem_of_getElem? (i := 20) (by decide +kernel), List.mem_of_getElem? (i := 358) (by decide +kernel), List.mem_of_getElem? (i := 359) (by decide +kernel)⟩
theorem lw_p7 : lw_okq (⟨"BlindMint$Denomination", "join", "(JJ)J"⟩, 6) := ⟨⟨by decide +kernel, by decide +kernel⟩, List.mem_of_getElem? (i := 381) (by decide +kernel), List.mem_of_getElem? (i := 379) (by decide +kernel), List.mem_of_getElem? (i := 380) (by decide +kernel)⟩
theorem lw_p8 : lw_okq (⟨"BlindMint", "findCoin", "(II)LBlindMint$Coin;"⟩, 12) := ⟨⟨by decide +kernel, by decide +kernel⟩, List.mem_of_getElem? (i := 20) (by decide +kernel), List.mem_of_getElem? (i := 479) (by decide +kernel), List.mem_of_getElem? (i := 480) (by decide +kernel)⟩
theorem lw_p9 : lw_okq (⟨"BlindMint", "findCredit", "(J)LBlindMint$Credit;"⟩, 12) := ⟨⟨by decide +kernel, by decide +kernel⟩, List.mem_of_getElem? (i := 20) (by decide +kernel), List.mem_of_getElem? (i := 520) (by decide +kernel), List.mem_of_getElem? (i := 521) (by decide +kernel)⟩
theorem lw_p10 : lw_okq (⟨"BlindMintModel", "fail", "(I)I"⟩, 22) := ⟨⟨by decide +kernel, by decide +kernel⟩, List.mem_of_getElem? (i := 596) (by decide +kernel), List.mem_of_getElem? (i := 683) (by decide +kernel), List.mem_of_getElem? (i := 684) (by decide +kernel)⟩
theorem lw_p11 : lw_okq (⟨"BlindMintModel", "candidates", "(IJI)V"⟩, 22) := ⟨⟨by decide +kernel, by decide +kernel⟩, List.mem_of_getElem? (i := 596) (by decide +kernel), List.mem_of_getElem? (i := 690) (by decide +kernel), List.mem_of_getElem? (i := 691) (by decide +kernel)⟩
theorem lw_p12 : lw_okq (⟨"BlindMintModel", "open", "(I)I"⟩, 22) := ⟨⟨by decide +kernel, by decide +kernel⟩, List.mem_of_getElem? (i := 596) (by decide +kernel), List.mem_of_getElem? (i := 710) (by decide +kernel), List.mem_of_getElem? (i := 711) (by decide +kernel)⟩
theorem lw_p13 : lw_okq (⟨"BlindMintModel", "least", "()I"⟩, 22) := ⟨⟨by decide +kernel, by decide +kernel⟩, List.mem_of_getElem? (i := 596) (by decide +kernel), List.mem_of_getElem? (i := 716) (by decide +kernel), List.mem_of_getElem? (i := 717) (by decide +kernel)⟩
theorem lw_p14 : lw_okq (⟨"BlindMintModel", "numberOf", "(J)J"⟩, 22) := ⟨⟨by decide +kernel, by decide +kernel⟩, List.mem_of_getElem? (i := 596) (by decide +kernel), List.mem_of_getElem? (i := 720) (by decide +kernel), List.mem_of_getElem? (i := 721) (by decide +kernel)⟩
theorem lw_p15 : lw_okq (⟨"BlindMintModel", "noCoin", "(II)Z"⟩, 22) := ⟨⟨by decide +kernel, by decide +kernel⟩, List.mem_of_getElem? (i := 596) (by decide +kernel), List.mem_of_getElem? (i := 758) (by decide +kernel), List.mem_of_getElem? (i := 759) (by decide +kernel)⟩
def lw_privs_1 : List (MethodName × Nat) := [(⟨"BlindMint", "findPayment", "(I)LBlindMint$Payment;"⟩, 12), (⟨"BlindMint", "isGood", "(LBlindMint$Payment;)Z"⟩, 12), (⟨"java/lang/Throwable", "fillInStackTrace", "(I)Ljava/lang/Throwable;"⟩, 6), (⟨"BlindMint$Proposal", "open", "()V"⟩, 4), (⟨"BlindMint$Proposal", "sortParts", "()V"⟩, 4), (⟨"BlindMint$Proposal", "insertPart", "(LBlindMint$Candidate;I)V"⟩, 4), (⟨"BlindMint", "makeCoin", "(IJ)LBlindMint$Coin;"⟩, 12), (⟨"BlindMint$Denomination", "join", "(JJ)J"⟩, 6), (⟨"BlindMint", "findCoin", "(II)LBlindMint$Coin;"⟩, 12), (⟨"BlindMint", "findCredit", "(J)LBlindMint$Credit;"⟩, 12), (⟨"BlindMintModel", "fail", "(I)I"⟩, 22), (⟨"BlindMintModel", "candidates", "(IJI)V"⟩, 22), (⟨"BlindMintModel", "open", "(I)I"⟩, 22), (⟨"BlindMintModel", "least", "()I"⟩, 22), (⟨"BlindMintModel", "numberOf", "(J)J"⟩, 22), (⟨"BlindMintModel", "noCoin", "(II)Z"⟩, 22)]
theorem lw_r1 : ∀ q ∈ lw_privs_1, lw_okq q := List.forall_mem_cons.mpr ⟨lw_p0, List.forall_mem_cons.mpr ⟨lw_p1, List.forall_mem_cons.mpr ⟨lw_p2, List.forall_mem_cons.mpr ⟨lw_p3, List.forall_mem_cons.mpr ⟨lw_p4, List.forall_mem_cons.mpr ⟨lw_p5, List.forall_mem_cons.mpr ⟨lw_p6, List.forall_mem_cons.mpr ⟨lw_p7, List.forall_mem_cons.mpr ⟨lw_p8, List.forall_mem_cons.mpr ⟨lw_p9, List.forall_mem_cons.mpr ⟨lw_p10, List.forall_mem_cons.mpr ⟨lw_p11, List.forall_mem_cons.mpr ⟨lw_p12, List.forall_mem_cons.mpr ⟨lw_p13, List.forall_mem_cons.mpr ⟨lw_p14, List.forall_mem_cons.mpr ⟨lw_p15, fun _ h => absurd h List.not_mem_nil⟩⟩⟩⟩⟩⟩⟩⟩⟩⟩⟩⟩⟩⟩⟩⟩
theorem lw_p16 : lw_okq (⟨"BlindMintModel", "noNumber", "(II)Z"⟩, 22) := ⟨⟨by decide +kernel, by decide +kernel⟩, List.mem_of_getElem? (i := 596) (by decide +kernel), List.mem_of_getElem? (i := 769) (by decide +kernel), List.mem_of_getElem? (i := 770) (by decide +kernel)⟩
theorem lw_p17 : lw_okq (⟨"BlindMintModel", "isGood", "(I)Z"⟩, 22) := ⟨⟨by decide +kernel, by decide +kernel⟩, List.mem_of_getElem? (i := 596) (by decide +kernel), List.mem_of_getElem? (i := 781) (by decide +kernel), List.mem_of_getElem? (i := 782) (by decide +kernel)⟩
theorem lw_p18 : lw_okq (⟨"BlindMintModel", "choiceOf", "(I)J"⟩, 22) := ⟨⟨by decide +kernel, by decide +kernel⟩, List.mem_of_getElem? (i := 596) (by decide +kernel), List.mem_of_getElem? (i := 785) (by decide +kernel), List.mem_of_getElem? (i := 786) (by decide +kernel)⟩
theorem lw_p19 : lw_okq (⟨"BlindMintModel", "noted", "(J)I"⟩, 22) := ⟨⟨by decide +kernel, by decide +kernel⟩, List.mem_of_getElem? (i := 596) (by decide +kernel), List.mem_of_getElem? (i := 796) (by decide +kernel), List.mem_of_getElem? (i := 797) (by decide +kernel)⟩
theorem lw_p20 : lw_okq (⟨"BlindMintModel", "trace", "(II)V"⟩, 22) := ⟨⟨by decide +kernel, by decide +kernel⟩, List.mem_of_getElem? (i := 596) (by decide +kernel), List.mem_of_getElem? (i := 800) (by decide +kernel), List.mem_of_getElem? (i := 801) (by decide +kernel)⟩
def lw_privs_2 : List (MethodName × Nat) := [(⟨"BlindMintModel", "noNumber", "(II)Z"⟩, 22), (⟨"BlindMintModel", "isGood", "(I)Z"⟩, 22), (⟨"BlindMintModel", "choiceOf", "(I)J"⟩, 22), (⟨"BlindMintModel", "noted", "(J)I"⟩, 22), (⟨"BlindMintModel", "trace", "(II)V"⟩, 22)]
theorem lw_r2 : ∀ q ∈ lw_privs_2, lw_okq q := List.forall_mem_cons.mpr ⟨lw_p16, List.forall_mem_cons.mpr ⟨lw_p17, List.forall_mem_cons.mpr ⟨lw_p18, List.forall_mem_cons.mpr ⟨lw_p19, List.forall_mem_cons.mpr ⟨lw_p20, fun _ h => absurd h List.not_mem_nil⟩⟩⟩⟩⟩
def lw_privs : List (MethodName × Nat) := lw_privs_1 ++ (lw_privs_2)
def lw_tbl : List Cond := k2_sels lw_privs ++ tables_1
theorem lw_privs_ok : ∀ q ∈ lw_privs, lw_okq q := by
  show ∀ q ∈ lw_privs_1 ++ (lw_privs_2), lw_okq q
  exact List.forall_mem_append.mpr ⟨lw_r1, lw_r2⟩
end
section
/-! the tables' words, by number -/
def bm_big : List Cond := lw_tbl.filter goodWord
theorem bm_inT {w : Cond} (h : w ∈ tables_1) (hg : goodWord w = true) : w ∈ bm_big := List.mem_filter.mpr ⟨List.mem_append_right _ h, hg⟩
theorem bm_inS {w : Cond} (h : w ∈ k2_sels lw_privs) (hg : goodWord w = true) : w ∈ bm_big := List.mem_filter.mpr ⟨List.mem_append_left _ h, hg⟩
theorem bm_bigG {w : Cond} (h : w ∈ bm_big) : (w.onTables && w.keeps) = true ∨ ∃ ty, w = .arrayClass ty := good_of_word (List.mem_filter.mp h).2
theorem bm_t1 {w : Cond} (h : w ∈ tables_1_1) : w ∈ tables_1 := List.mem_append_left _ h
theorem bm_t2 {w : Cond} (h : w ∈ tables_1_2) : w ∈ tables_1 := List.mem_append_right _ (List.mem_append_left _ h)
theorem bm_t3 {w : Cond} (h : w ∈ tables_1_3) : w ∈ tables_1 := List.mem_append_right _ (List.mem_append_right _ (List.mem_append_left _ h))
theorem bm_t4 {w : Cond} (h : w ∈ tables_1_4) : w ∈ tables_1 := List.mem_append_right _ (List.mem_append_right _ (List.mem_append_right _ h))
theorem bw_0 : (Cond.initialized "BlindMintLaw") ∈ bm_big := bm_inT (bm_t1 (List.mem_of_getElem? (i := 0) rfl)) rfl
theorem bw_1 : (Cond.initialized "BlindMint") ∈ bm_big := bm_inT (bm_t1 (List.mem_of_getElem? (i := 1) rfl)) rfl
theorem bw_2 : (Cond.initialized "BlindMint$Proposal") ∈ bm_big := bm_inT (bm_t1 (List.mem_of_getElem? (i := 2) rfl)) rfl
theorem bw_3 : (Cond.initialized "BlindMint$Candidate") ∈ bm_big := bm_inT (bm_t1 (List.mem_of_getElem? (i := 3) rfl)) rfl
theorem bw_4 : (Cond.initialized "BlindMint$Account") ∈ bm_big := bm_inT (bm_t1 (List.mem_of_getElem? (i := 4) rfl)) rfl
theorem bw_5 : (Cond.initialized "BlindMintModel") ∈ bm_big := bm_inT (bm_t1 (List.mem_of_getElem? (i := 5) rfl)) rfl
theorem bw_6 : (Cond.initialized "java/lang/Throwable") ∈ bm_big := bm_inT (bm_t1 (List.mem_of_getElem? (i := 6) rfl)) rfl
theorem bw_7 : (Cond.initialized "java/lang/Exception") ∈ bm_big := bm_inT (bm_t1 (List.mem_of_getElem? (i := 7) rfl)) rfl
theorem bw_8 : (Cond.initialized "java/lang/RuntimeException") ∈ bm_big := bm_inT (bm_t1 (List.mem_of_getElem? (i := 8) rfl)) rfl
theorem bw_9 : (Cond.initialized "java/lang/IllegalArgumentException") ∈ bm_big := bm_inT (bm_t1 (List.mem_of_getElem? (i := 9) rfl)) rfl
theorem bw_10 : (Cond.initialized "java/lang/IllegalStateException") ∈ bm_big := bm_inT (bm_t1 (List.mem_of_getElem? (i := 10) rfl)) rfl
theorem bw_11 : (Cond.initialized "BlindMint$Hash") ∈ bm_big := bm_inT (bm_t1 (List.mem_of_getElem? (i := 11) rfl)) rfl
theorem bw_12 : (Cond.initialized "BlindMint$Field") ∈ bm_big := bm_inT (bm_t1 (List.mem_of_getElem? (i := 12) rfl)) rfl
theorem bw_13 : (Cond.initialized "java/lang/Math") ∈ bm_big := bm_inT (bm_t1 (List.mem_of_getElem? (i := 13) rfl)) rfl
theorem bw_14 : (Cond.initialized "BlindMint$Coin") ∈ bm_big := bm_inT (bm_t1 (List.mem_of_getElem? (i := 14) rfl)) rfl
theorem bw_15 : (Cond.initialized "java/util/NoSuchElementException") ∈ bm_big := bm_inT (bm_t1 (List.mem_of_getElem? (i := 15) rfl)) rfl
theorem bw_16 : (Cond.initialized "BlindMint$Payment") ∈ bm_big := bm_inT (bm_t1 (List.mem_of_getElem? (i := 16) rfl)) rfl
theorem bw_17 : (Cond.initialized "java/lang/System") ∈ bm_big := bm_inT (bm_t1 (List.mem_of_getElem? (i := 17) rfl)) rfl
theorem bw_18 : (Cond.initialized "BlindMint$Credit") ∈ bm_big := bm_inT (bm_t1 (List.mem_of_getElem? (i := 18) rfl)) rfl
theorem bw_19 : (Cond.classLink "BlindMintLaw" 8 "BlindMint") ∈ bm_big := bm_inT (bm_t1 (List.mem_of_getElem? (i := 19) rfl)) rfl
theorem bw_20 : (Cond.instantiable "BlindMint" 12) ∈ bm_big := bm_inT (bm_t1 (List.mem_of_getElem? (i := 20) rfl)) rfl
theorem bw_21 : (Cond.methodLink "BlindMintLaw" 48 ({ cls := "BlindMint", name := "<init>", desc := "()V" } : MethodName)) ∈ bm_big := bm_inT (bm_t1 (List.mem_of_getElem? (i := 21) rfl)) rfl
theorem bw_22 : (Cond.instanceMethod ({ cls := "BlindMint", name := "<init>", desc := "()V" } : MethodName)) ∈ bm_big := bm_inT (bm_t1 (List.mem_of_getElem? (i := 22) rfl)) rfl
theorem bw_23 : (Cond.code ({ cls := "BlindMint", name := "<init>", desc := "()V" } : MethodName) prog_1_method_1_code 2 (Option.none : Option Jvm.ClassFile.FieldType)) ∈ bm_big := bm_inT (bm_t1 (List.mem_of_getElem? (i := 23) rfl)) rfl
theorem bw_24 : (Cond.methodLink "BlindMint" 3 ({ cls := "java/lang/Object", name := "<init>", desc := "()V" } : MethodName)) ∈ bm_big := bm_inT (bm_t1 (List.mem_of_getElem? (i := 24) rfl)) rfl
theorem bw_25 : (Cond.instanceMethod ({ cls := "java/lang/Object", name := "<init>", desc := "()V" } : MethodName)) ∈ bm_big := bm_inT (bm_t1 (List.mem_of_getElem? (i := 25) rfl)) rfl
theorem bw_26 : (Cond.code ({ cls := "java/lang/Object", name := "<init>", desc := "()V" } : MethodName) object_method_1_code 1 (Option.none : Option Jvm.ClassFile.FieldType)) ∈ bm_big := bm_inT (bm_t1 (List.mem_of_getElem? (i := 26) rfl)) rfl
theorem bw_27 : (Cond.classLink "BlindMint" 9 "BlindMint$Account") ∈ bm_big := bm_inT (bm_t1 (List.mem_of_getElem? (i := 27) rfl)) rfl
theorem bw_29 : (Cond.classLink "BlindMint" 15 "BlindMint$Proposal") ∈ bm_big := bm_inT (bm_t1 (List.mem_of_getElem? (i := 29) rfl)) rfl
theorem bw_30 : (Cond.instantiable "BlindMint$Proposal" 4) ∈ bm_big := bm_inT (bm_t1 (List.mem_of_getElem? (i := 30) rfl)) rfl
theorem bw_31 : (Cond.methodLink "BlindMint" 17 ({ cls := "BlindMint$Proposal", name := "<init>", desc := "()V" } : MethodName)) ∈ bm_big := bm_inT (bm_t1 (List.mem_of_getElem? (i := 31) rfl)) rfl
theorem bw_32 : (Cond.instanceMethod ({ cls := "BlindMint$Proposal", name := "<init>", desc := "()V" } : MethodName)) ∈ bm_big := bm_inT (bm_t1 (List.mem_of_getElem? (i := 32) rfl)) rfl
theorem bw_33 : (Cond.code ({ cls := "BlindMint$Proposal", name := "<init>", desc := "()V" } : MethodName) prog_10_method_1_code 2 (Option.none : Option Jvm.ClassFile.FieldType)) ∈ bm_big := bm_inT (bm_t1 (List.mem_of_getElem? (i := 33) rfl)) rfl
theorem bw_34 : (Cond.methodLink "BlindMint$Proposal" 3 ({ cls := "java/lang/Object", name := "<init>", desc := "()V" } : MethodName)) ∈ bm_big := bm_inT (bm_t1 (List.mem_of_getElem? (i := 34) rfl)) rfl
theorem bw_35 : (Cond.classLink "BlindMint$Proposal" 9 "BlindMint$Candidate") ∈ bm_big := bm_inT (bm_t1 (List.mem_of_getElem? (i := 35) rfl)) rfl
theorem bw_37 : (Cond.instantiable "BlindMint$Candidate" 7) ∈ bm_big := bm_inT (bm_t1 (List.mem_of_getElem? (i := 37) rfl)) rfl
theorem bw_39 : (Cond.instanceMethod ({ cls := "BlindMint$Candidate", name := "<init>", desc := "()V" } : MethodName)) ∈ bm_big := bm_inT (bm_t1 (List.mem_of_getElem? (i := 39) rfl)) rfl
theorem bw_40 : (Cond.code ({ cls := "BlindMint$Candidate", name := "<init>", desc := "()V" } : MethodName) prog_3_method_1_code 1 (Option.none : Option Jvm.ClassFile.FieldType)) ∈ bm_big := bm_inT (bm_t1 (List.mem_of_getElem? (i := 40) rfl)) rfl
theorem bw_41 : (Cond.methodLink "BlindMint$Candidate" 1 ({ cls := "java/lang/Object", name := "<init>", desc := "()V" } : MethodName)) ∈ bm_big := bm_inT (bm_t1 (List.mem_of_getElem? (i := 41) rfl)) rfl
theorem bw_42 : (Cond.fieldLink "BlindMint$Coin" 35 "BlindMint$Candidate" "a" "J") ∈ bm_big := bm_inT (bm_t1 (List.mem_of_getElem? (i := 42) rfl)) rfl
theorem bw_43 : (Cond.fieldLink "BlindMint$Candidate" 13 "BlindMint$Candidate" "a" "J") ∈ bm_big := bm_inT (bm_t1 (List.mem_of_getElem? (i := 43) rfl)) rfl
theorem bw_44 : (Cond.fieldLink "BlindMint$Coin" 40 "BlindMint$Candidate" "c" "J") ∈ bm_big := bm_inT (bm_t1 (List.mem_of_getElem? (i := 44) rfl)) rfl
theorem bw_45 : (Cond.fieldLink "BlindMint$Candidate" 19 "BlindMint$Candidate" "c" "J") ∈ bm_big := bm_inT (bm_t1 (List.mem_of_getElem? (i := 45) rfl)) rfl
theorem bw_46 : (Cond.fieldLink "BlindMint$Coin" 49 "BlindMint$Candidate" "e" "J") ∈ bm_big := bm_inT (bm_t1 (List.mem_of_getElem? (i := 46) rfl)) rfl
theorem bw_47 : (Cond.fieldLink "BlindMint$Candidate" 22 "BlindMint$Candidate" "e" "J") ∈ bm_big := bm_inT (bm_t1 (List.mem_of_getElem? (i := 47) rfl)) rfl
theorem bw_48 : (Cond.fieldLink "BlindMint$Coin" 46 "BlindMint$Candidate" "b" "J") ∈ bm_big := bm_inT (bm_t1 (List.mem_of_getElem? (i := 48) rfl)) rfl
theorem bw_49 : (Cond.fieldLink "BlindMint$Candidate" 25 "BlindMint$Candidate" "b" "J") ∈ bm_big := bm_inT (bm_t1 (List.mem_of_getElem? (i := 49) rfl)) rfl
theorem bw_50 : (Cond.fieldLink "BlindMint$Coin" 52 "BlindMint$Candidate" "x" "J") ∈ bm_big := bm_inT (bm_t1 (List.mem_of_getElem? (i := 50) rfl)) rfl
theorem bw_51 : (Cond.fieldLink "BlindMint$Candidate" 28 "BlindMint$Candidate" "x" "J") ∈ bm_big := bm_inT (bm_t1 (List.mem_of_getElem? (i := 51) rfl)) rfl
theorem bw_52 : (Cond.fieldLink "BlindMint$Coin" 43 "BlindMint$Candidate" "y" "J") ∈ bm_big := bm_inT (bm_t1 (List.mem_of_getElem? (i := 52) rfl)) rfl
theorem bw_53 : (Cond.fieldLink "BlindMint$Candidate" 31 "BlindMint$Candidate" "y" "J") ∈ bm_big := bm_inT (bm_t1 (List.mem_of_getElem? (i := 53) rfl)) rfl
theorem bw_54 : (Cond.fieldLink "BlindMint$Candidate" 34 "BlindMint$Candidate" "pairHash" "J") ∈ bm_big := bm_inT (bm_t1 (List.mem_of_getElem? (i := 54) rfl)) rfl
theorem bw_55 : (Cond.fieldLink "BlindMint$Proposal" 42 "BlindMint$Candidate" "pairHash" "J") ∈ bm_big := bm_inT (bm_t1 (List.mem_of_getElem? (i := 55) rfl)) rfl
theorem bw_56 : (Cond.lays "BlindMint$Candidate" "BlindMint$Candidate" "a" "J") ∈ bm_big := bm_inT (bm_t1 (List.mem_of_getElem? (i := 56) rfl)) rfl
theorem bw_58 : (Cond.lays "BlindMint$Candidate" "BlindMint$Candidate" "c" "J") ∈ bm_big := bm_inT (bm_t1 (List.mem_of_getElem? (i := 58) rfl)) rfl
theorem bw_60 : (Cond.lays "BlindMint$Candidate" "BlindMint$Candidate" "e" "J") ∈ bm_big := bm_inT (bm_t1 (List.mem_of_getElem? (i := 60) rfl)) rfl
theorem bw_62 : (Cond.lays "BlindMint$Candidate" "BlindMint$Candidate" "b" "J") ∈ bm_big := bm_inT (bm_t1 (List.mem_of_getElem? (i := 62) rfl)) rfl
theorem bw_64 : (Cond.lays "BlindMint$Candidate" "BlindMint$Candidate" "x" "J") ∈ bm_big := bm_inT (bm_t1 (List.mem_of_getElem? (i := 64) rfl)) rfl
theorem bw_66 : (Cond.lays "BlindMint$Candidate" "BlindMint$Candidate" "y" "J") ∈ bm_big := bm_inT (bm_t1 (List.mem_of_getElem? (i := 66) rfl)) rfl
theorem bw_68 : (Cond.lays "BlindMint$Candidate" "BlindMint$Candidate" "pairHash" "J") ∈ bm_big := bm_inT (bm_t1 (List.mem_of_getElem? (i := 68) rfl)) rfl
theorem bw_71 : (Cond.fieldLink "BlindMint$Proposal" 11 "BlindMint$Proposal" "candidates" "[LBlindMint$Candidate;") ∈ bm_big := bm_inT (bm_t1 (List.mem_of_getElem? (i := 71) rfl)) rfl
theorem bw_72 : (Cond.fieldLink "BlindMint$Proposal" 17 "BlindMint$Proposal" "parts" "[LBlindMint$Candidate;") ∈ bm_big := bm_inT (bm_t1 (List.mem_of_getElem? (i := 72) rfl)) rfl
theorem bw_73 : (Cond.fieldLink "BlindMint" 213 "BlindMint$Proposal" "parts" "[LBlindMint$Candidate;") ∈ bm_big := bm_inT (bm_t1 (List.mem_of_getElem? (i := 73) rfl)) rfl
theorem bw_74 : (Cond.fieldLink "BlindMint$Proposal" 20 "BlindMint$Proposal" "firstOpened" "I") ∈ bm_big := bm_inT (bm_t1 (List.mem_of_getElem? (i := 74) rfl)) rfl
theorem bw_75 : (Cond.fieldLink "BlindMint$Proposal" 24 "BlindMint$Proposal" "secondOpened" "I") ∈ bm_big := bm_inT (bm_t1 (List.mem_of_getElem? (i := 75) rfl)) rfl
theorem bw_76 : (Cond.laysFinal "BlindMint$Proposal" "BlindMint$Proposal" "candidates" "[LBlindMint$Candidate;") ∈ bm_big := bm_inT (bm_t1 (List.mem_of_getElem? (i := 76) rfl)) rfl
theorem bw_78 : (Cond.laysFinal "BlindMint$Proposal" "BlindMint$Proposal" "parts" "[LBlindMint$Candidate;") ∈ bm_big := bm_inT (bm_t1 (List.mem_of_getElem? (i := 78) rfl)) rfl
theorem bw_80 : (Cond.lays "BlindMint$Proposal" "BlindMint$Proposal" "firstOpened" "I") ∈ bm_big := bm_inT (bm_t1 (List.mem_of_getElem? (i := 80) rfl)) rfl
theorem bw_82 : (Cond.lays "BlindMint$Proposal" "BlindMint$Proposal" "secondOpened" "I") ∈ bm_big := bm_inT (bm_t1 (List.mem_of_getElem? (i := 82) rfl)) rfl
theorem bw_85 : (Cond.classLink "BlindMint" 22 "BlindMint$Payment") ∈ bm_big := bm_inT (bm_t1 (List.mem_of_getElem? (i := 85) rfl)) rfl
theorem bw_87 : (Cond.constantLong "BlindMint" 43 (-1)) ∈ bm_big := bm_inT (bm_t1 (List.mem_of_getElem? (i := 87) rfl)) rfl
theorem bw_88 : (Cond.instantiable "BlindMint$Account" 3) ∈ bm_big := bm_inT (bm_t1 (List.mem_of_getElem? (i := 88) rfl)) rfl
theorem bw_90 : (Cond.instanceMethod ({ cls := "BlindMint$Account", name := "<init>", desc := "()V" } : MethodName)) ∈ bm_big := bm_inT (bm_t1 (List.mem_of_getElem? (i := 90) rfl)) rfl
theorem bw_91 : (Cond.code ({ cls := "BlindMint$Account", name := "<init>", desc := "()V" } : MethodName) prog_2_method_1_code 1 (Option.none : Option Jvm.ClassFile.FieldType)) ∈ bm_big := bm_inT (bm_t1 (List.mem_of_getElem? (i := 91) rfl)) rfl
theorem bw_92 : (Cond.methodLink "BlindMint$Account" 3 ({ cls := "java/lang/Object", name := "<init>", desc := "()V" } : MethodName)) ∈ bm_big := bm_inT (bm_t1 (List.mem_of_getElem? (i := 92) rfl)) rfl
theorem bw_93 : (Cond.classLink "BlindMint$Account" 15 "BlindMint$Coin") ∈ bm_big := bm_inT (bm_t1 (List.mem_of_getElem? (i := 93) rfl)) rfl
theorem bw_95 : (Cond.fieldLink "BlindMint$Account" 9 "BlindMint$Account" "balance" "I") ∈ bm_big := bm_inT (bm_t1 (List.mem_of_getElem? (i := 95) rfl)) rfl
theorem bw_96 : (Cond.fieldLink "BlindMint" 82 "BlindMint$Account" "balance" "I") ∈ bm_big := bm_inT (bm_t1 (List.mem_of_getElem? (i := 96) rfl)) rfl
theorem bw_97 : (Cond.fieldLink "BlindMint$Account" 17 "BlindMint$Account" "wallet" "[LBlindMint$Coin;") ∈ bm_big := bm_inT (bm_t1 (List.mem_of_getElem? (i := 97) rfl)) rfl
theorem bw_98 : (Cond.fieldLink "BlindMint" 180 "BlindMint$Account" "wallet" "[LBlindMint$Coin;") ∈ bm_big := bm_inT (bm_t1 (List.mem_of_getElem? (i := 98) rfl)) rfl
theorem bw_99 : (Cond.fieldLink "BlindMint$Account" 21 "BlindMint$Account" "coinCount" "I") ∈ bm_big := bm_inT (bm_t1 (List.mem_of_getElem? (i := 99) rfl)) rfl
theorem bw_100 : (Cond.fieldLink "BlindMint" 108 "BlindMint$Account" "coinCount" "I") ∈ bm_big := bm_inT (bm_t1 (List.mem_of_getElem? (i := 100) rfl)) rfl
theorem bw_101 : (Cond.lays "BlindMint$Account" "BlindMint$Account" "balance" "I") ∈ bm_big := bm_inT (bm_t1 (List.mem_of_getElem? (i := 101) rfl)) rfl
theorem bw_103 : (Cond.laysFinal "BlindMint$Account" "BlindMint$Account" "wallet" "[LBlindMint$Coin;") ∈ bm_big := bm_inT (bm_t1 (List.mem_of_getElem? (i := 103) rfl)) rfl
theorem bw_105 : (Cond.lays "BlindMint$Account" "BlindMint$Account" "coinCount" "I") ∈ bm_big := bm_inT (bm_t1 (List.mem_of_getElem? (i := 105) rfl)) rfl
theorem bw_108 : (Cond.arrayClass FieldType.long) ∈ bm_big := bm_inT (bm_t1 (List.mem_of_getElem? (i := 108) rfl)) rfl
theorem bw_109 : (Cond.fieldLink "BlindMint" 11 "BlindMint" "accounts" "[LBlindMint$Account;") ∈ bm_big := bm_inT (bm_t1 (List.mem_of_getElem? (i := 109) rfl)) rfl
theorem bw_110 : (Cond.fieldLink "BlindMint" 18 "BlindMint" "proposal" "LBlindMint$Proposal;") ∈ bm_big := bm_inT (bm_t1 (List.mem_of_getElem? (i := 110) rfl)) rfl
theorem bw_111 : (Cond.fieldLink "BlindMint" 24 "BlindMint" "payments" "[LBlindMint$Payment;") ∈ bm_big := bm_inT (bm_t1 (List.mem_of_getElem? (i := 111) rfl)) rfl
theorem bw_112 : (Cond.fieldLink "BlindMint" 28 "BlindMint" "paymentCount" "I") ∈ bm_big := bm_inT (bm_t1 (List.mem_of_getElem? (i := 112) rfl)) rfl
theorem bw_113 : (Cond.fieldLink "BlindMint" 32 "BlindMint" "pairHashes" "[J") ∈ bm_big := bm_inT (bm_t1 (List.mem_of_getElem? (i := 113) rfl)) rfl
theorem bw_114 : (Cond.fieldLink "BlindMint" 36 "BlindMint" "lastCredit" "LBlindMint$Credit;") ∈ bm_big := bm_inT (bm_t1 (List.mem_of_getElem? (i := 114) rfl)) rfl
theorem bw_115 : (Cond.fieldLink "BlindMint" 40 "BlindMint" "lastTraced" "I") ∈ bm_big := bm_inT (bm_t1 (List.mem_of_getElem? (i := 115) rfl)) rfl
theorem bw_116 : (Cond.fieldLink "BlindMint" 45 "BlindMint" "lastBlinded" "J") ∈ bm_big := bm_inT (bm_t1 (List.mem_of_getElem? (i := 116) rfl)) rfl
theorem bw_117 : (Cond.fieldLink "BlindMint" 49 "BlindMint" "withdrawnCoins" "I") ∈ bm_big := bm_inT (bm_t1 (List.mem_of_getElem? (i := 117) rfl)) rfl
theorem bw_118 : (Cond.fieldLink "BlindMint" 52 "BlindMint" "depositedCoins" "I") ∈ bm_big := bm_inT (bm_t1 (List.mem_of_getElem? (i := 118) rfl)) rfl
theorem bw_119 : (Cond.fieldLink "BlindMint" 55 "BlindMint" "foundCheats" "I") ∈ bm_big := bm_inT (bm_t1 (List.mem_of_getElem? (i := 119) rfl)) rfl
theorem bw_120 : (Cond.fieldLink "BlindMint" 58 "BlindMint" "repeatedDeposits" "I") ∈ bm_big := bm_inT (bm_t1 (List.mem_of_getElem? (i := 120) rfl)) rfl
theorem bw_121 : (Cond.laysFinal "BlindMint" "BlindMint" "accounts" "[LBlindMint$Account;") ∈ bm_big := bm_inT (bm_t1 (List.mem_of_getElem? (i := 121) rfl)) rfl
theorem bw_123 : (Cond.laysFinal "BlindMint" "BlindMint" "proposal" "LBlindMint$Proposal;") ∈ bm_big := bm_inT (bm_t1 (List.mem_of_getElem? (i := 123) rfl)) rfl
theorem bw_125 : (Cond.laysFinal "BlindMint" "BlindMint" "payments" "[LBlindMint$Payment;") ∈ bm_big := bm_inT (bm_t1 (List.mem_of_getElem? (i := 125) rfl)) rfl
theorem bw_127 : (Cond.lays "BlindMint" "BlindMint" "paymentCount" "I") ∈ bm_big := bm_inT (bm_t1 (List.mem_of_getElem? (i := 127) rfl)) rfl
theorem bw_129 : (Cond.laysFinal "BlindMint" "BlindMint" "pairHashes" "[J") ∈ bm_big := bm_inT (bm_t1 (List.mem_of_getElem? (i := 129) rfl)) rfl
theorem bw_131 : (Cond.lays "BlindMint" "BlindMint" "lastCredit" "LBlindMint$Credit;") ∈ bm_big := bm_inT (bm_t1 (List.mem_of_getElem? (i := 131) rfl)) rfl
theorem bw_133 : (Cond.lays "BlindMint" "BlindMint" "lastTraced" "I") ∈ bm_big := bm_inT (bm_t1 (List.mem_of_getElem? (i := 133) rfl)) rfl
theorem bw_135 : (Cond.lays "BlindMint" "BlindMint" "lastBlinded" "J") ∈ bm_big := bm_inT (bm_t1 (List.mem_of_getElem? (i := 135) rfl)) rfl
theorem bw_137 : (Cond.lays "BlindMint" "BlindMint" "withdrawnCoins" "I") ∈ bm_big := bm_inT (bm_t1 (List.mem_of_getElem? (i := 137) rfl)) rfl
theorem bw_139 : (Cond.lays "BlindMint" "BlindMint" "depositedCoins" "I") ∈ bm_big := bm_inT (bm_t1 (List.mem_of_getElem? (i := 139) rfl)) rfl
theorem bw_141 : (Cond.lays "BlindMint" "BlindMint" "foundCheats" "I") ∈ bm_big := bm_inT (bm_t1 (List.mem_of_getElem? (i := 141) rfl)) rfl
theorem bw_143 : (Cond.lays "BlindMint" "BlindMint" "repeatedDeposits" "I") ∈ bm_big := bm_inT (bm_t1 (List.mem_of_getElem? (i := 143) rfl)) rfl
theorem bw_146 : (Cond.methodLink "BlindMintLaw" 79 ({ cls := "BlindMint", name := "good", desc := "(I)Z" } : MethodName)) ∈ bm_big := bm_inT (bm_t1 (List.mem_of_getElem? (i := 146) rfl)) rfl
theorem bw_147 : (Cond.instanceMethod ({ cls := "BlindMint", name := "good", desc := "(I)Z" } : MethodName)) ∈ bm_big := bm_inT (bm_t1 (List.mem_of_getElem? (i := 147) rfl)) rfl
theorem bw_148 : (Cond.selects "BlindMint" ({ cls := "BlindMint", name := "good", desc := "(I)Z" } : MethodName) ({ cls := "BlindMint", name := "good", desc := "(I)Z" } : MethodName)) ∈ bm_big := bm_inT (bm_t1 (List.mem_of_getElem? (i := 148) rfl)) rfl
theorem bw_149 : (Cond.code ({ cls := "BlindMint", name := "good", desc := "(I)Z" } : MethodName) prog_1_method_7_code 3 (Option.some FieldType.boolean)) ∈ bm_big := bm_inT (bm_t1 (List.mem_of_getElem? (i := 149) rfl)) rfl
theorem bw_150 : (Cond.methodLink "BlindMint" 131 ({ cls := "BlindMint", name := "findPayment", desc := "(I)LBlindMint$Payment;" } : MethodName)) ∈ bm_big := bm_inT (bm_t1 (List.mem_of_getElem? (i := 150) rfl)) rfl
theorem bw_152 : (Cond.instanceMethod ({ cls := "BlindMint", name := "findPayment", desc := "(I)LBlindMint$Payment;" } : MethodName)) ∈ bm_big := bm_inT (bm_t1 (List.mem_of_getElem? (i := 152) rfl)) rfl
theorem bw_153 : (Cond.code ({ cls := "BlindMint", name := "findPayment", desc := "(I)LBlindMint$Payment;" } : MethodName) prog_1_method_21_code 2 (Option.some (FieldType.object "BlindMint$Payment"))) ∈ bm_big := bm_inT (bm_t1 (List.mem_of_getElem? (i := 153) rfl)) rfl
theorem bw_154 : (Cond.methodLink "BlindMint" 141 ({ cls := "BlindMint", name := "isGood", desc := "(LBlindMint$Payment;)Z" } : MethodName)) ∈ bm_big := bm_inT (bm_t1 (List.mem_of_getElem? (i := 154) rfl)) rfl
theorem bw_156 : (Cond.instanceMethod ({ cls := "BlindMint", name := "isGood", desc := "(LBlindMint$Payment;)Z" } : MethodName)) ∈ bm_big := bm_inT (bm_t1 (List.mem_of_getElem? (i := 156) rfl)) rfl
theorem bw_157 : (Cond.code ({ cls := "BlindMint", name := "isGood", desc := "(LBlindMint$Payment;)Z" } : MethodName) prog_1_method_23_code 4 (Option.some FieldType.boolean)) ∈ bm_big := bm_inT (bm_t1 (List.mem_of_getElem? (i := 157) rfl)) rfl
theorem bw_158 : (Cond.methodLink "BlindMint" 145 ({ cls := "BlindMint$Payment", name := "denomination", desc := "()J" } : MethodName)) ∈ bm_big := bm_inT (bm_t1 (List.mem_of_getElem? (i := 158) rfl)) rfl
theorem bw_159 : (Cond.instanceMethod ({ cls := "BlindMint$Payment", name := "denomination", desc := "()J" } : MethodName)) ∈ bm_big := bm_inT (bm_t1 (List.mem_of_getElem? (i := 159) rfl)) rfl
theorem bw_160 : (Cond.selects "BlindMint$Payment" ({ cls := "BlindMint$Payment", name := "denomination", desc := "()J" } : MethodName) ({ cls := "BlindMint$Payment", name := "denomination", desc := "()J" } : MethodName)) ∈ bm_big := bm_inT (bm_t1 (List.mem_of_getElem? (i := 160) rfl)) rfl
theorem bw_161 : (Cond.code ({ cls := "BlindMint$Payment", name := "denomination", desc := "()J" } : MethodName) prog_9_method_3_code 1 (Option.some FieldType.long)) ∈ bm_big := bm_inT (bm_t1 (List.mem_of_getElem? (i := 161) rfl)) rfl
theorem bw_162 : (Cond.methodLink "BlindMint" 66 ({ cls := "BlindMint", name := "isDenomination", desc := "(J)Z" } : MethodName)) ∈ bm_big := bm_inT (bm_t1 (List.mem_of_getElem? (i := 162) rfl)) rfl
theorem bw_163 : (Cond.static ({ cls := "BlindMint", name := "isDenomination", desc := "(J)Z" } : MethodName)) ∈ bm_big := bm_inT (bm_t1 (List.mem_of_getElem? (i := 163) rfl)) rfl
theorem bw_164 : (Cond.code ({ cls := "BlindMint", name := "isDenomination", desc := "(J)Z" } : MethodName) prog_1_method_17_code 2 (Option.some FieldType.boolean)) ∈ bm_big := bm_inT (bm_t1 (List.mem_of_getElem? (i := 164) rfl)) rfl
theorem bw_165 : (Cond.fieldLink "BlindMint" 73 "BlindMint" "DENOMINATIONS" "[LBlindMint$Denomination;") ∈ bm_big := bm_inT (bm_t1 (List.mem_of_getElem? (i := 165) rfl)) rfl
theorem bw_167 : (Cond.methodLink "BlindMint" 220 ({ cls := "BlindMint$Payment", name := "readPairHashes", desc := "([J)V" } : MethodName)) ∈ bm_big := bm_inT (bm_t1 (List.mem_of_getElem? (i := 167) rfl)) rfl
theorem bw_168 : (Cond.instanceMethod ({ cls := "BlindMint$Payment", name := "readPairHashes", desc := "([J)V" } : MethodName)) ∈ bm_big := bm_inT (bm_t1 (List.mem_of_getElem? (i := 168) rfl)) rfl
theorem bw_169 : (Cond.selects "BlindMint$Payment" ({ cls := "BlindMint$Payment", name := "readPairHashes", desc := "([J)V" } : MethodName) ({ cls := "BlindMint$Payment", name := "readPairHashes", desc := "([J)V" } : MethodName)) ∈ bm_big := bm_inT (bm_t1 (List.mem_of_getElem? (i := 169) rfl)) rfl
theorem bw_170 : (Cond.code ({ cls := "BlindMint$Payment", name := "readPairHashes", desc := "([J)V" } : MethodName) prog_9_method_7_code 10 (Option.none : Option Jvm.ClassFile.FieldType)) ∈ bm_big := bm_inT (bm_t1 (List.mem_of_getElem? (i := 170) rfl)) rfl
theorem bw_171 : (Cond.methodLink "BlindMint$Payment" 25 ({ cls := "BlindMint$Payment", name := "challenge", desc := "()J" } : MethodName)) ∈ bm_big := bm_inT (bm_t1 (List.mem_of_getElem? (i := 171) rfl)) rfl
theorem bw_172 : (Cond.instanceMethod ({ cls := "BlindMint$Payment", name := "challenge", desc := "()J" } : MethodName)) ∈ bm_big := bm_inT (bm_t1 (List.mem_of_getElem? (i := 172) rfl)) rfl
theorem bw_173 : (Cond.selects "BlindMint$Payment" ({ cls := "BlindMint$Payment", name := "challenge", desc := "()J" } : MethodName) ({ cls := "BlindMint$Payment", name := "challenge", desc := "()J" } : MethodName)) ∈ bm_big := bm_inT (bm_t1 (List.mem_of_getElem? (i := 173) rfl)) rfl
theorem bw_174 : (Cond.code ({ cls := "BlindMint$Payment", name := "challenge", desc := "()J" } : MethodName) prog_9_method_5_code 3 (Option.some FieldType.long)) ∈ bm_big := bm_inT (bm_t1 (List.mem_of_getElem? (i := 174) rfl)) rfl
theorem bw_175 : (Cond.constantLong "BlindMint$Payment" 51 (7)) ∈ bm_big := bm_inT (bm_t1 (List.mem_of_getElem? (i := 175) rfl)) rfl
theorem bw_176 : (Cond.methodLink "BlindMint$Payment" 53 ({ cls := "BlindMint$Hash", name := "step", desc := "(JJ)J" } : MethodName)) ∈ bm_big := bm_inT (bm_t1 (List.mem_of_getElem? (i := 176) rfl)) rfl
theorem bw_177 : (Cond.static ({ cls := "BlindMint$Hash", name := "step", desc := "(JJ)J" } : MethodName)) ∈ bm_big := bm_inT (bm_t1 (List.mem_of_getElem? (i := 177) rfl)) rfl
theorem bw_178 : (Cond.code ({ cls := "BlindMint$Hash", name := "step", desc := "(JJ)J" } : MethodName) prog_8_method_2_code 6 (Option.some FieldType.long)) ∈ bm_big := bm_inT (bm_t1 (List.mem_of_getElem? (i := 178) rfl)) rfl
theorem bw_179 : (Cond.constantLong "BlindMint$Hash" 9 (6364136223846793005)) ∈ bm_big := bm_inT (bm_t1 (List.mem_of_getElem? (i := 179) rfl)) rfl
theorem bw_180 : (Cond.constantLong "BlindMint$Hash" 11 (1442695040888963407)) ∈ bm_big := bm_inT (bm_t1 (List.mem_of_getElem? (i := 180) rfl)) rfl
theorem bw_181 : (Cond.methodLink "BlindMint$Payment" 57 ({ cls := "BlindMint$Hash", name := "end", desc := "(J)J" } : MethodName)) ∈ bm_big := bm_inT (bm_t1 (List.mem_of_getElem? (i := 181) rfl)) rfl
theorem bw_182 : (Cond.static ({ cls := "BlindMint$Hash", name := "end", desc := "(J)J" } : MethodName)) ∈ bm_big := bm_inT (bm_t1 (List.mem_of_getElem? (i := 182) rfl)) rfl
theorem bw_183 : (Cond.code ({ cls := "BlindMint$Hash", name := "end", desc := "(J)J" } : MethodName) prog_8_method_3_code 2 (Option.some FieldType.long)) ∈ bm_big := bm_inT (bm_t1 (List.mem_of_getElem? (i := 183) rfl)) rfl
theorem bw_184 : (Cond.constantLong "BlindMint$Hash" 13 (576460752303423487)) ∈ bm_big := bm_inT (bm_t1 (List.mem_of_getElem? (i := 184) rfl)) rfl
theorem bw_185 : (Cond.methodLink "BlindMint$Payment" 39 ({ cls := "BlindMint$Payment", name := "firstOfPart", desc := "(I)I" } : MethodName)) ∈ bm_big := bm_inT (bm_t1 (List.mem_of_getElem? (i := 185) rfl)) rfl
theorem bw_186 : (Cond.static ({ cls := "BlindMint$Payment", name := "firstOfPart", desc := "(I)I" } : MethodName)) ∈ bm_big := bm_inT (bm_t1 (List.mem_of_getElem? (i := 186) rfl)) rfl
theorem bw_187 : (Cond.code ({ cls := "BlindMint$Payment", name := "firstOfPart", desc := "(I)I" } : MethodName) prog_9_method_8_code 1 (Option.some FieldType.int)) ∈ bm_big := bm_inT (bm_t1 (List.mem_of_getElem? (i := 187) rfl)) rfl
theorem bw_188 : (Cond.methodLink "BlindMint$Payment" 61 ({ cls := "BlindMint$Hash", name := "of", desc := "(JJ)J" } : MethodName)) ∈ bm_big := bm_inT (bm_t1 (List.mem_of_getElem? (i := 188) rfl)) rfl
theorem bw_189 : (Cond.static ({ cls := "BlindMint$Hash", name := "of", desc := "(JJ)J" } : MethodName)) ∈ bm_big := bm_inT (bm_t1 (List.mem_of_getElem? (i := 189) rfl)) rfl
theorem bw_190 : (Cond.code ({ cls := "BlindMint$Hash", name := "of", desc := "(JJ)J" } : MethodName) prog_8_method_4_code 4 (Option.some FieldType.long)) ∈ bm_big := bm_inT (bm_t1 (List.mem_of_getElem? (i := 190) rfl)) rfl
theorem bw_191 : (Cond.constantLong "BlindMint$Hash" 15 (7)) ∈ bm_big := bm_inT (bm_t1 (List.mem_of_getElem? (i := 191) rfl)) rfl
theorem bw_192 : (Cond.methodLink "BlindMint$Hash" 17 ({ cls := "BlindMint$Hash", name := "step", desc := "(JJ)J" } : MethodName)) ∈ bm_big := bm_inT (bm_t1 (List.mem_of_getElem? (i := 192) rfl)) rfl
theorem bw_193 : (Cond.methodLink "BlindMint$Hash" 21 ({ cls := "BlindMint$Hash", name := "end", desc := "(J)J" } : MethodName)) ∈ bm_big := bm_inT (bm_t1 (List.mem_of_getElem? (i := 193) rfl)) rfl
theorem bw_195 : (Cond.static ({ cls := "BlindMint", name := "isOne", desc := "(JI)Z" } : MethodName)) ∈ bm_big := bm_inT (bm_t1 (List.mem_of_getElem? (i := 195) rfl)) rfl
theorem bw_196 : (Cond.code ({ cls := "BlindMint", name := "isOne", desc := "(JI)Z" } : MethodName) prog_1_method_18_code 3 (Option.some FieldType.boolean)) ∈ bm_big := bm_inT (bm_t1 (List.mem_of_getElem? (i := 196) rfl)) rfl
theorem bw_197 : (Cond.methodLink "BlindMint" 188 ({ cls := "BlindMint$Hash", name := "ofCoin", desc := "(J[J)J" } : MethodName)) ∈ bm_big := bm_inT (bm_t1 (List.mem_of_getElem? (i := 197) rfl)) rfl
theorem bw_198 : (Cond.static ({ cls := "BlindMint$Hash", name := "ofCoin", desc := "(J[J)J" } : MethodName)) ∈ bm_big := bm_inT (bm_t1 (List.mem_of_getElem? (i := 198) rfl)) rfl
theorem bw_199 : (Cond.code ({ cls := "BlindMint$Hash", name := "ofCoin", desc := "(J[J)J" } : MethodName) prog_8_method_5_code 10 (Option.some FieldType.long)) ∈ bm_big := bm_inT (bm_t1 (List.mem_of_getElem? (i := 199) rfl)) rfl
theorem bw_200 : (Cond.methodLink "BlindMint" 221 ({ cls := "BlindMint$Payment", name := "signatureNumber", desc := "()J" } : MethodName)) ∈ bm_big := bm_inT (bm_t1 (List.mem_of_getElem? (i := 200) rfl)) rfl
theorem bw_201 : (Cond.instanceMethod ({ cls := "BlindMint$Payment", name := "signatureNumber", desc := "()J" } : MethodName)) ∈ bm_big := bm_inT (bm_t1 (List.mem_of_getElem? (i := 201) rfl)) rfl
theorem bw_202 : (Cond.selects "BlindMint$Payment" ({ cls := "BlindMint$Payment", name := "signatureNumber", desc := "()J" } : MethodName) ({ cls := "BlindMint$Payment", name := "signatureNumber", desc := "()J" } : MethodName)) ∈ bm_big := bm_inT (bm_t1 (List.mem_of_getElem? (i := 202) rfl)) rfl
theorem bw_203 : (Cond.code ({ cls := "BlindMint$Payment", name := "signatureNumber", desc := "()J" } : MethodName) prog_9_method_4_code 1 (Option.some FieldType.long)) ∈ bm_big := bm_inT (bm_t1 (List.mem_of_getElem? (i := 203) rfl)) rfl
theorem bw_204 : (Cond.methodLink "BlindMint" 224 ({ cls := "BlindMint$Denomination", name := "isSignature", desc := "(JJ)Z" } : MethodName)) ∈ bm_big := bm_inT (bm_t1 (List.mem_of_getElem? (i := 204) rfl)) rfl
theorem bw_205 : (Cond.instanceMethod ({ cls := "BlindMint$Denomination", name := "isSignature", desc := "(JJ)Z" } : MethodName)) ∈ bm_big := bm_inT (bm_t1 (List.mem_of_getElem? (i := 205) rfl)) rfl
theorem bw_206 : (Cond.selects "BlindMint$Denomination" ({ cls := "BlindMint$Denomination", name := "isSignature", desc := "(JJ)Z" } : MethodName) ({ cls := "BlindMint$Denomination", name := "isSignature", desc := "(JJ)Z" } : MethodName)) ∈ bm_big := bm_inT (bm_t1 (List.mem_of_getElem? (i := 206) rfl)) rfl
theorem bw_207 : (Cond.code ({ cls := "BlindMint$Denomination", name := "isSignature", desc := "(JJ)Z" } : MethodName) prog_6_method_8_code 5 (Option.some FieldType.boolean)) ∈ bm_big := bm_inT (bm_t1 (List.mem_of_getElem? (i := 207) rfl)) rfl
theorem bw_208 : (Cond.constantLong "BlindMint$Denomination" 43 (17)) ∈ bm_big := bm_inT (bm_t1 (List.mem_of_getElem? (i := 208) rfl)) rfl
theorem bw_209 : (Cond.methodLink "BlindMint$Denomination" 45 ({ cls := "BlindMint$Field", name := "power", desc := "(JJJ)J" } : MethodName)) ∈ bm_big := bm_inT (bm_t1 (List.mem_of_getElem? (i := 209) rfl)) rfl
theorem bw_210 : (Cond.static ({ cls := "BlindMint$Field", name := "power", desc := "(JJJ)J" } : MethodName)) ∈ bm_big := bm_inT (bm_t1 (List.mem_of_getElem? (i := 210) rfl)) rfl
theorem bw_211 : (Cond.code ({ cls := "BlindMint$Field", name := "power", desc := "(JJJ)J" } : MethodName) prog_7_method_3_code 11 (Option.some FieldType.long)) ∈ bm_big := bm_inT (bm_t1 (List.mem_of_getElem? (i := 211) rfl)) rfl
theorem bw_213 : (Cond.methodLink "BlindMintLaw" 87 ({ cls := "BlindMint", name := "traced", desc := "()I" } : MethodName)) ∈ bm_big := bm_inT (bm_t1 (List.mem_of_getElem? (i := 213) rfl)) rfl
theorem bw_214 : (Cond.instanceMethod ({ cls := "BlindMint", name := "traced", desc := "()I" } : MethodName)) ∈ bm_big := bm_inT (bm_t1 (List.mem_of_getElem? (i := 214) rfl)) rfl
theorem bw_215 : (Cond.selects "BlindMint" ({ cls := "BlindMint", name := "traced", desc := "()I" } : MethodName) ({ cls := "BlindMint", name := "traced", desc := "()I" } : MethodName)) ∈ bm_big := bm_inT (bm_t1 (List.mem_of_getElem? (i := 215) rfl)) rfl
theorem bw_216 : (Cond.code ({ cls := "BlindMint", name := "traced", desc := "()I" } : MethodName) prog_1_method_9_code 1 (Option.some FieldType.int)) ∈ bm_big := bm_inT (bm_t1 (List.mem_of_getElem? (i := 216) rfl)) rfl
theorem bw_217 : (Cond.methodLink "BlindMintLaw" 95 ({ cls := "BlindMint", name := "coins", desc := "(I)I" } : MethodName)) ∈ bm_big := bm_inT (bm_t1 (List.mem_of_getElem? (i := 217) rfl)) rfl
theorem bw_218 : (Cond.instanceMethod ({ cls := "BlindMint", name := "coins", desc := "(I)I" } : MethodName)) ∈ bm_big := bm_inT (bm_t1 (List.mem_of_getElem? (i := 218) rfl)) rfl
theorem bw_219 : (Cond.selects "BlindMint" ({ cls := "BlindMint", name := "coins", desc := "(I)I" } : MethodName) ({ cls := "BlindMint", name := "coins", desc := "(I)I" } : MethodName)) ∈ bm_big := bm_inT (bm_t1 (List.mem_of_getElem? (i := 219) rfl)) rfl
theorem bw_220 : (Cond.code ({ cls := "BlindMint", name := "coins", desc := "(I)I" } : MethodName) prog_1_method_11_code 2 (Option.some FieldType.int)) ∈ bm_big := bm_inT (bm_t1 (List.mem_of_getElem? (i := 220) rfl)) rfl
theorem bw_221 : (Cond.methodLink "BlindMint" 62 ({ cls := "BlindMint", name := "isAccount", desc := "(I)Z" } : MethodName)) ∈ bm_big := bm_inT (bm_t1 (List.mem_of_getElem? (i := 221) rfl)) rfl
theorem bw_222 : (Cond.static ({ cls := "BlindMint", name := "isAccount", desc := "(I)Z" } : MethodName)) ∈ bm_big := bm_inT (bm_t1 (List.mem_of_getElem? (i := 222) rfl)) rfl
theorem bw_223 : (Cond.code ({ cls := "BlindMint", name := "isAccount", desc := "(I)Z" } : MethodName) prog_1_method_16_code 1 (Option.some FieldType.boolean)) ∈ bm_big := bm_inT (bm_t1 (List.mem_of_getElem? (i := 223) rfl)) rfl
theorem bw_224 : (Cond.methodLink "BlindMintLaw" 105 ({ cls := "BlindMint", name := "blinded", desc := "()J" } : MethodName)) ∈ bm_big := bm_inT (bm_t1 (List.mem_of_getElem? (i := 224) rfl)) rfl
theorem bw_225 : (Cond.instanceMethod ({ cls := "BlindMint", name := "blinded", desc := "()J" } : MethodName)) ∈ bm_big := bm_inT (bm_t1 (List.mem_of_getElem? (i := 225) rfl)) rfl
theorem bw_226 : (Cond.selects "BlindMint" ({ cls := "BlindMint", name := "blinded", desc := "()J" } : MethodName) ({ cls := "BlindMint", name := "blinded", desc := "()J" } : MethodName)) ∈ bm_big := bm_inT (bm_t1 (List.mem_of_getElem? (i := 226) rfl)) rfl
theorem bw_227 : (Cond.code ({ cls := "BlindMint", name := "blinded", desc := "()J" } : MethodName) prog_1_method_14_code 1 (Option.some FieldType.long)) ∈ bm_big := bm_inT (bm_t1 (List.mem_of_getElem? (i := 227) rfl)) rfl
theorem bw_228 : (Cond.methodLink "BlindMintLaw" 110 ({ cls := "BlindMint", name := "count", desc := "(I)I" } : MethodName)) ∈ bm_big := bm_inT (bm_t1 (List.mem_of_getElem? (i := 228) rfl)) rfl
theorem bw_229 : (Cond.instanceMethod ({ cls := "BlindMint", name := "count", desc := "(I)I" } : MethodName)) ∈ bm_big := bm_inT (bm_t1 (List.mem_of_getElem? (i := 229) rfl)) rfl
theorem bw_230 : (Cond.selects "BlindMint" ({ cls := "BlindMint", name := "count", desc := "(I)I" } : MethodName) ({ cls := "BlindMint", name := "count", desc := "(I)I" } : MethodName)) ∈ bm_big := bm_inT (bm_t1 (List.mem_of_getElem? (i := 230) rfl)) rfl
theorem bw_231 : (Cond.code ({ cls := "BlindMint", name := "count", desc := "(I)I" } : MethodName) prog_1_method_15_code 2 (Option.some FieldType.int)) ∈ bm_big := bm_inT (bm_t1 (List.mem_of_getElem? (i := 231) rfl)) rfl
theorem bw_232 : (Cond.methodLink "BlindMintLaw" 54 ({ cls := "BlindMintLaw", name := "withdraw", desc := "(LBlindMint;IIJI[J)I" } : MethodName)) ∈ bm_big := bm_inT (bm_t1 (List.mem_of_getElem? (i := 232) rfl)) rfl
theorem bw_233 : (Cond.static ({ cls := "BlindMintLaw", name := "withdraw", desc := "(LBlindMint;IIJI[J)I" } : MethodName)) ∈ bm_big := bm_inT (bm_t1 (List.mem_of_getElem? (i := 233) rfl)) rfl
theorem bw_235 : (Cond.classLink "BlindMintLaw" 13 "java/lang/IllegalArgumentException") ∈ bm_big := bm_inT (bm_t1 (List.mem_of_getElem? (i := 235) rfl)) rfl
theorem bw_236 : (Cond.classLink "BlindMintLaw" 15 "java/lang/IllegalStateException") ∈ bm_big := bm_inT (bm_t1 (List.mem_of_getElem? (i := 236) rfl)) rfl
theorem bw_237 : (Cond.methodLink "BlindMintLaw" 7 ({ cls := "BlindMint", name := "withdraw", desc := "(IIJI)I" } : MethodName)) ∈ bm_big := bm_inT (bm_t1 (List.mem_of_getElem? (i := 237) rfl)) rfl
theorem bw_238 : (Cond.instanceMethod ({ cls := "BlindMint", name := "withdraw", desc := "(IIJI)I" } : MethodName)) ∈ bm_big := bm_inT (bm_t1 (List.mem_of_getElem? (i := 238) rfl)) rfl
theorem bw_239 : (Cond.selects "BlindMint" ({ cls := "BlindMint", name := "withdraw", desc := "(IIJI)I" } : MethodName) ({ cls := "BlindMint", name := "withdraw", desc := "(IIJI)I" } : MethodName)) ∈ bm_big := bm_inT (bm_t1 (List.mem_of_getElem? (i := 239) rfl)) rfl
theorem bw_240 : (Cond.code ({ cls := "BlindMint", name := "withdraw", desc := "(IIJI)I" } : MethodName) prog_1_method_2_code 11 (Option.some FieldType.int)) ∈ bm_big := bm_inT (bm_t2 (List.mem_of_getElem? (i := 0) rfl)) rfl
theorem bw_241 : (Cond.classLink "BlindMint" 70 "java/lang/IllegalArgumentException") ∈ bm_big := bm_inT (bm_t2 (List.mem_of_getElem? (i := 1) rfl)) rfl
theorem bw_242 : (Cond.instantiable "java/lang/IllegalArgumentException" 6) ∈ bm_big := bm_inT (bm_t2 (List.mem_of_getElem? (i := 2) rfl)) rfl
theorem bw_250 : (Cond.selects "java/lang/IllegalArgumentException" ({ cls := "java/lang/Throwable", name := "fillInStackTrace", desc := "(I)Ljava/lang/Throwable;" } : MethodName) ({ cls := "java/lang/Throwable", name := "fillInStackTrace", desc := "(I)Ljava/lang/Throwable;" } : MethodName)) ∈ bm_big := bm_inT (bm_t2 (List.mem_of_getElem? (i := 10) rfl)) rfl
theorem bw_251 : (Cond.selects "java/lang/IllegalArgumentException" ({ cls := "java/lang/Throwable", name := "fillInStackTrace", desc := "()Ljava/lang/Throwable;" } : MethodName) ({ cls := "java/lang/Throwable", name := "fillInStackTrace", desc := "()Ljava/lang/Throwable;" } : MethodName)) ∈ bm_big := bm_inT (bm_t2 (List.mem_of_getElem? (i := 11) rfl)) rfl
theorem bw_252 : (Cond.lays "java/lang/IllegalArgumentException" "java/lang/Throwable" "cause" "Ljava/lang/Throwable;") ∈ bm_big := bm_inT (bm_t2 (List.mem_of_getElem? (i := 12) rfl)) rfl
theorem bw_253 : (Cond.lays "java/lang/Throwable" "java/lang/Throwable" "cause" "Ljava/lang/Throwable;") ∈ bm_big := bm_inT (bm_t2 (List.mem_of_getElem? (i := 13) rfl)) rfl
theorem bw_254 : (Cond.lays "java/lang/IllegalArgumentException" "java/lang/Throwable" "stackTrace" "[Ljava/lang/StackTraceElement;") ∈ bm_big := bm_inT (bm_t2 (List.mem_of_getElem? (i := 14) rfl)) rfl
theorem bw_255 : (Cond.lays "java/lang/Throwable" "java/lang/Throwable" "stackTrace" "[Ljava/lang/StackTraceElement;") ∈ bm_big := bm_inT (bm_t2 (List.mem_of_getElem? (i := 15) rfl)) rfl
theorem bw_256 : (Cond.lays "java/lang/IllegalArgumentException" "java/lang/Throwable" "suppressedExceptions" "Ljava/util/List;") ∈ bm_big := bm_inT (bm_t2 (List.mem_of_getElem? (i := 16) rfl)) rfl
theorem bw_257 : (Cond.lays "java/lang/Throwable" "java/lang/Throwable" "suppressedExceptions" "Ljava/util/List;") ∈ bm_big := bm_inT (bm_t2 (List.mem_of_getElem? (i := 17) rfl)) rfl
theorem bw_258 : (Cond.lays "java/lang/IllegalArgumentException" "java/lang/Throwable" "detailMessage" "Ljava/lang/String;") ∈ bm_big := bm_inT (bm_t2 (List.mem_of_getElem? (i := 18) rfl)) rfl
theorem bw_259 : (Cond.lays "java/lang/Throwable" "java/lang/Throwable" "detailMessage" "Ljava/lang/String;") ∈ bm_big := bm_inT (bm_t2 (List.mem_of_getElem? (i := 19) rfl)) rfl
theorem bw_260 : (Cond.lays "java/lang/IllegalArgumentException" "java/lang/Throwable" "backtrace" "Ljava/lang/Object;") ∈ bm_big := bm_inT (bm_t2 (List.mem_of_getElem? (i := 20) rfl)) rfl
theorem bw_261 : (Cond.lays "java/lang/Throwable" "java/lang/Throwable" "backtrace" "Ljava/lang/Object;") ∈ bm_big := bm_inT (bm_t2 (List.mem_of_getElem? (i := 21) rfl)) rfl
theorem bw_262 : (Cond.fieldLink "java/lang/Throwable" 198 "java/lang/Throwable" "backtrace" "Ljava/lang/Object;") ∈ bm_big := bm_inT (bm_t2 (List.mem_of_getElem? (i := 22) rfl)) rfl
theorem bw_264 : (Cond.instanceMethod ({ cls := "java/lang/Throwable", name := "<init>", desc := "()V" } : MethodName)) ∈ bm_big := bm_inT (bm_t2 (List.mem_of_getElem? (i := 24) rfl)) rfl
theorem bw_265 : (Cond.code ({ cls := "java/lang/Throwable", name := "<init>", desc := "()V" } : MethodName) prog_21_method_1_code 1 (Option.none : Option Jvm.ClassFile.FieldType)) ∈ bm_big := bm_inT (bm_t2 (List.mem_of_getElem? (i := 25) rfl)) rfl
theorem bw_266 : (Cond.methodLink "java/lang/Throwable" 1 ({ cls := "java/lang/Object", name := "<init>", desc := "()V" } : MethodName)) ∈ bm_big := bm_inT (bm_t2 (List.mem_of_getElem? (i := 26) rfl)) rfl
theorem bw_267 : (Cond.fieldLink "java/lang/Throwable" 13 "java/lang/Throwable" "UNASSIGNED_STACK" "[Ljava/lang/StackTraceElement;") ∈ bm_big := bm_inT (bm_t2 (List.mem_of_getElem? (i := 27) rfl)) rfl
theorem bw_269 : (Cond.fieldLink "java/lang/Throwable" 20 "java/lang/Throwable" "SUPPRESSED_SENTINEL" "Ljava/util/List;") ∈ bm_big := bm_inT (bm_t2 (List.mem_of_getElem? (i := 29) rfl)) rfl
theorem bw_271 : (Cond.methodLink "java/lang/Throwable" 27 ({ cls := "java/lang/Throwable", name := "fillInStackTrace", desc := "()Ljava/lang/Throwable;" } : MethodName)) ∈ bm_big := bm_inT (bm_t2 (List.mem_of_getElem? (i := 31) rfl)) rfl
theorem bw_272 : (Cond.instanceMethod ({ cls := "java/lang/Throwable", name := "fillInStackTrace", desc := "()Ljava/lang/Throwable;" } : MethodName)) ∈ bm_big := bm_inT (bm_t2 (List.mem_of_getElem? (i := 32) rfl)) rfl
theorem bw_273 : (Cond.sameMethod "java/lang/Throwable" "java/lang/Throwable" "fillInStackTrace" "()Ljava/lang/Throwable;") ∈ bm_big := bm_inT (bm_t2 (List.mem_of_getElem? (i := 33) rfl)) rfl
theorem bw_274 : (Cond.selects "java/lang/IllegalStateException" ({ cls := "java/lang/Throwable", name := "fillInStackTrace", desc := "()Ljava/lang/Throwable;" } : MethodName) ({ cls := "java/lang/Throwable", name := "fillInStackTrace", desc := "()Ljava/lang/Throwable;" } : MethodName)) ∈ bm_big := bm_inT (bm_t2 (List.mem_of_getElem? (i := 34) rfl)) rfl
theorem bw_275 : (Cond.selects "java/util/NoSuchElementException" ({ cls := "java/lang/Throwable", name := "fillInStackTrace", desc := "()Ljava/lang/Throwable;" } : MethodName) ({ cls := "java/lang/Throwable", name := "fillInStackTrace", desc := "()Ljava/lang/Throwable;" } : MethodName)) ∈ bm_big := bm_inT (bm_t2 (List.mem_of_getElem? (i := 35) rfl)) rfl
theorem bw_277 : (Cond.methodLink "java/lang/Throwable" 202 ({ cls := "java/lang/Throwable", name := "fillInStackTrace", desc := "(I)Ljava/lang/Throwable;" } : MethodName)) ∈ bm_big := bm_inT (bm_t2 (List.mem_of_getElem? (i := 37) rfl)) rfl
theorem bw_279 : (Cond.instanceMethod ({ cls := "java/lang/Throwable", name := "fillInStackTrace", desc := "(I)Ljava/lang/Throwable;" } : MethodName)) ∈ bm_big := bm_inT (bm_t2 (List.mem_of_getElem? (i := 39) rfl)) rfl
theorem bw_280 : (Cond.instantiable "java/lang/Throwable" 6) ∈ bm_big := bm_inT (bm_t2 (List.mem_of_getElem? (i := 40) rfl)) rfl
theorem bw_281 : (Cond.native ({ cls := "java/lang/Throwable", name := "fillInStackTrace", desc := "(I)Ljava/lang/Throwable;" } : MethodName)) ∈ bm_big := bm_inT (bm_t2 (List.mem_of_getElem? (i := 41) rfl)) rfl
theorem bw_282 : (Cond.methodLink "BlindMint" 72 ({ cls := "java/lang/IllegalArgumentException", name := "<init>", desc := "()V" } : MethodName)) ∈ bm_big := bm_inT (bm_t2 (List.mem_of_getElem? (i := 42) rfl)) rfl
theorem bw_283 : (Cond.instanceMethod ({ cls := "java/lang/IllegalArgumentException", name := "<init>", desc := "()V" } : MethodName)) ∈ bm_big := bm_inT (bm_t2 (List.mem_of_getElem? (i := 43) rfl)) rfl
theorem bw_284 : (Cond.code ({ cls := "java/lang/IllegalArgumentException", name := "<init>", desc := "()V" } : MethodName) prog_16_method_1_code 1 (Option.none : Option Jvm.ClassFile.FieldType)) ∈ bm_big := bm_inT (bm_t2 (List.mem_of_getElem? (i := 44) rfl)) rfl
theorem bw_285 : (Cond.methodLink "java/lang/IllegalArgumentException" 1 ({ cls := "java/lang/RuntimeException", name := "<init>", desc := "()V" } : MethodName)) ∈ bm_big := bm_inT (bm_t2 (List.mem_of_getElem? (i := 45) rfl)) rfl
theorem bw_286 : (Cond.instanceMethod ({ cls := "java/lang/RuntimeException", name := "<init>", desc := "()V" } : MethodName)) ∈ bm_big := bm_inT (bm_t2 (List.mem_of_getElem? (i := 46) rfl)) rfl
theorem bw_287 : (Cond.code ({ cls := "java/lang/RuntimeException", name := "<init>", desc := "()V" } : MethodName) prog_19_method_1_code 1 (Option.none : Option Jvm.ClassFile.FieldType)) ∈ bm_big := bm_inT (bm_t2 (List.mem_of_getElem? (i := 47) rfl)) rfl
theorem bw_288 : (Cond.methodLink "java/lang/RuntimeException" 1 ({ cls := "java/lang/Exception", name := "<init>", desc := "()V" } : MethodName)) ∈ bm_big := bm_inT (bm_t2 (List.mem_of_getElem? (i := 48) rfl)) rfl
theorem bw_289 : (Cond.instanceMethod ({ cls := "java/lang/Exception", name := "<init>", desc := "()V" } : MethodName)) ∈ bm_big := bm_inT (bm_t2 (List.mem_of_getElem? (i := 49) rfl)) rfl
theorem bw_290 : (Cond.code ({ cls := "java/lang/Exception", name := "<init>", desc := "()V" } : MethodName) prog_15_method_1_code 1 (Option.none : Option Jvm.ClassFile.FieldType)) ∈ bm_big := bm_inT (bm_t2 (List.mem_of_getElem? (i := 50) rfl)) rfl
theorem bw_291 : (Cond.methodLink "java/lang/Exception" 1 ({ cls := "java/lang/Throwable", name := "<init>", desc := "()V" } : MethodName)) ∈ bm_big := bm_inT (bm_t2 (List.mem_of_getElem? (i := 51) rfl)) rfl
theorem bw_292 : (Cond.fieldLink "java/lang/Throwable" 198 "java/lang/Throwable" "backtrace" "Ljava/lang/Object;") ∈ bm_big := bm_inT (bm_t2 (List.mem_of_getElem? (i := 52) rfl)) rfl
theorem bw_293 : (Cond.fieldLink "java/lang/Throwable" 7 "java/lang/Throwable" "cause" "Ljava/lang/Throwable;") ∈ bm_big := bm_inT (bm_t2 (List.mem_of_getElem? (i := 53) rfl)) rfl
theorem bw_294 : (Cond.fieldLink "java/lang/Throwable" 17 "java/lang/Throwable" "stackTrace" "[Ljava/lang/StackTraceElement;") ∈ bm_big := bm_inT (bm_t2 (List.mem_of_getElem? (i := 54) rfl)) rfl
theorem bw_295 : (Cond.fieldLink "java/lang/Throwable" 24 "java/lang/Throwable" "suppressedExceptions" "Ljava/util/List;") ∈ bm_big := bm_inT (bm_t2 (List.mem_of_getElem? (i := 55) rfl)) rfl
theorem bw_300 : (Cond.lays "java/lang/IllegalArgumentException" "java/lang/Throwable" "depth" "I") ∈ bm_big := bm_inT (bm_t2 (List.mem_of_getElem? (i := 60) rfl)) rfl
theorem bw_304 : (Cond.methodLink "BlindMint" 85 ({ cls := "BlindMint$Account", name := "isWalletFull", desc := "()Z" } : MethodName)) ∈ bm_big := bm_inT (bm_t2 (List.mem_of_getElem? (i := 64) rfl)) rfl
theorem bw_305 : (Cond.instanceMethod ({ cls := "BlindMint$Account", name := "isWalletFull", desc := "()Z" } : MethodName)) ∈ bm_big := bm_inT (bm_t2 (List.mem_of_getElem? (i := 65) rfl)) rfl
theorem bw_306 : (Cond.selects "BlindMint$Account" ({ cls := "BlindMint$Account", name := "isWalletFull", desc := "()Z" } : MethodName) ({ cls := "BlindMint$Account", name := "isWalletFull", desc := "()Z" } : MethodName)) ∈ bm_big := bm_inT (bm_t2 (List.mem_of_getElem? (i := 66) rfl)) rfl
theorem bw_307 : (Cond.code ({ cls := "BlindMint$Account", name := "isWalletFull", desc := "()Z" } : MethodName) prog_2_method_2_code 1 (Option.some FieldType.boolean)) ∈ bm_big := bm_inT (bm_t2 (List.mem_of_getElem? (i := 67) rfl)) rfl
theorem bw_308 : (Cond.classLink "BlindMint" 89 "java/lang/IllegalStateException") ∈ bm_big := bm_inT (bm_t2 (List.mem_of_getElem? (i := 68) rfl)) rfl
theorem bw_309 : (Cond.instantiable "java/lang/IllegalStateException" 6) ∈ bm_big := bm_inT (bm_t2 (List.mem_of_getElem? (i := 69) rfl)) rfl
theorem bw_311 : (Cond.selects "java/lang/IllegalStateException" ({ cls := "java/lang/Throwable", name := "fillInStackTrace", desc := "(I)Ljava/lang/Throwable;" } : MethodName) ({ cls := "java/lang/Throwable", name := "fillInStackTrace", desc := "(I)Ljava/lang/Throwable;" } : MethodName)) ∈ bm_big := bm_inT (bm_t2 (List.mem_of_getElem? (i := 71) rfl)) rfl
theorem bw_312 : (Cond.lays "java/lang/IllegalStateException" "java/lang/Throwable" "cause" "Ljava/lang/Throwable;") ∈ bm_big := bm_inT (bm_t2 (List.mem_of_getElem? (i := 72) rfl)) rfl
theorem bw_313 : (Cond.lays "java/lang/IllegalStateException" "java/lang/Throwable" "stackTrace" "[Ljava/lang/StackTraceElement;") ∈ bm_big := bm_inT (bm_t2 (List.mem_of_getElem? (i := 73) rfl)) rfl
theorem bw_314 : (Cond.lays "java/lang/IllegalStateException" "java/lang/Throwable" "suppressedExceptions" "Ljava/util/List;") ∈ bm_big := bm_inT (bm_t2 (List.mem_of_getElem? (i := 74) rfl)) rfl
theorem bw_315 : (Cond.lays "java/lang/IllegalStateException" "java/lang/Throwable" "detailMessage" "Ljava/lang/String;") ∈ bm_big := bm_inT (bm_t2 (List.mem_of_getElem? (i := 75) rfl)) rfl
theorem bw_316 : (Cond.lays "java/lang/IllegalStateException" "java/lang/Throwable" "backtrace" "Ljava/lang/Object;") ∈ bm_big := bm_inT (bm_t2 (List.mem_of_getElem? (i := 76) rfl)) rfl
theorem bw_317 : (Cond.methodLink "BlindMint" 91 ({ cls := "java/lang/IllegalStateException", name := "<init>", desc := "()V" } : MethodName)) ∈ bm_big := bm_inT (bm_t2 (List.mem_of_getElem? (i := 77) rfl)) rfl
theorem bw_318 : (Cond.instanceMethod ({ cls := "java/lang/IllegalStateException", name := "<init>", desc := "()V" } : MethodName)) ∈ bm_big := bm_inT (bm_t2 (List.mem_of_getElem? (i := 78) rfl)) rfl
theorem bw_319 : (Cond.code ({ cls := "java/lang/IllegalStateException", name := "<init>", desc := "()V" } : MethodName) prog_17_method_1_code 1 (Option.none : Option Jvm.ClassFile.FieldType)) ∈ bm_big := bm_inT (bm_t2 (List.mem_of_getElem? (i := 79) rfl)) rfl
theorem bw_320 : (Cond.methodLink "java/lang/IllegalStateException" 1 ({ cls := "java/lang/RuntimeException", name := "<init>", desc := "()V" } : MethodName)) ∈ bm_big := bm_inT (bm_t2 (List.mem_of_getElem? (i := 80) rfl)) rfl
theorem bw_321 : (Cond.lays "java/lang/IllegalStateException" "java/lang/Throwable" "depth" "I") ∈ bm_big := bm_inT (bm_t2 (List.mem_of_getElem? (i := 81) rfl)) rfl
theorem bw_323 : (Cond.methodLink "BlindMint" 92 ({ cls := "BlindMint$Proposal", name := "make", desc := "(JJI)V" } : MethodName)) ∈ bm_big := bm_inT (bm_t2 (List.mem_of_getElem? (i := 83) rfl)) rfl
theorem bw_324 : (Cond.instanceMethod ({ cls := "BlindMint$Proposal", name := "make", desc := "(JJI)V" } : MethodName)) ∈ bm_big := bm_inT (bm_t2 (List.mem_of_getElem? (i := 84) rfl)) rfl
theorem bw_325 : (Cond.selects "BlindMint$Proposal" ({ cls := "BlindMint$Proposal", name := "make", desc := "(JJI)V" } : MethodName) ({ cls := "BlindMint$Proposal", name := "make", desc := "(JJI)V" } : MethodName)) ∈ bm_big := bm_inT (bm_t2 (List.mem_of_getElem? (i := 85) rfl)) rfl
theorem bw_326 : (Cond.code ({ cls := "BlindMint$Proposal", name := "make", desc := "(JJI)V" } : MethodName) prog_10_method_2_code 7 (Option.none : Option Jvm.ClassFile.FieldType)) ∈ bm_big := bm_inT (bm_t2 (List.mem_of_getElem? (i := 86) rfl)) rfl
theorem bw_327 : (Cond.methodLink "BlindMint$Proposal" 28 ({ cls := "BlindMint$Candidate", name := "make", desc := "(JIJ)V" } : MethodName)) ∈ bm_big := bm_inT (bm_t2 (List.mem_of_getElem? (i := 87) rfl)) rfl
theorem bw_328 : (Cond.instanceMethod ({ cls := "BlindMint$Candidate", name := "make", desc := "(JIJ)V" } : MethodName)) ∈ bm_big := bm_inT (bm_t2 (List.mem_of_getElem? (i := 88) rfl)) rfl
theorem bw_329 : (Cond.selects "BlindMint$Candidate" ({ cls := "BlindMint$Candidate", name := "make", desc := "(JIJ)V" } : MethodName) ({ cls := "BlindMint$Candidate", name := "make", desc := "(JIJ)V" } : MethodName)) ∈ bm_big := bm_inT (bm_t2 (List.mem_of_getElem? (i := 89) rfl)) rfl
theorem bw_330 : (Cond.code ({ cls := "BlindMint$Candidate", name := "make", desc := "(JIJ)V" } : MethodName) prog_3_method_2_code 6 (Option.none : Option Jvm.ClassFile.FieldType)) ∈ bm_big := bm_inT (bm_t2 (List.mem_of_getElem? (i := 90) rfl)) rfl
theorem bw_331 : (Cond.methodLink "BlindMint$Candidate" 7 ({ cls := "BlindMint$Hash", name := "of", desc := "(JJ)J" } : MethodName)) ∈ bm_big := bm_inT (bm_t2 (List.mem_of_getElem? (i := 91) rfl)) rfl
theorem bw_332 : (Cond.methodLink "BlindMint$Proposal" 32 ({ cls := "BlindMint$Proposal", name := "open", desc := "()V" } : MethodName)) ∈ bm_big := bm_inT (bm_t2 (List.mem_of_getElem? (i := 92) rfl)) rfl
theorem bw_334 : (Cond.instanceMethod ({ cls := "BlindMint$Proposal", name := "open", desc := "()V" } : MethodName)) ∈ bm_big := bm_inT (bm_t2 (List.mem_of_getElem? (i := 94) rfl)) rfl
theorem bw_335 : (Cond.code ({ cls := "BlindMint$Proposal", name := "open", desc := "()V" } : MethodName) prog_10_method_5_code 6 (Option.none : Option Jvm.ClassFile.FieldType)) ∈ bm_big := bm_inT (bm_t2 (List.mem_of_getElem? (i := 95) rfl)) rfl
theorem bw_336 : (Cond.constantLong "BlindMint$Proposal" 48 (7)) ∈ bm_big := bm_inT (bm_t2 (List.mem_of_getElem? (i := 96) rfl)) rfl
theorem bw_337 : (Cond.methodLink "BlindMint$Proposal" 50 ({ cls := "BlindMint$Hash", name := "step", desc := "(JJ)J" } : MethodName)) ∈ bm_big := bm_inT (bm_t2 (List.mem_of_getElem? (i := 97) rfl)) rfl
theorem bw_338 : (Cond.methodLink "BlindMint$Proposal" 54 ({ cls := "BlindMint$Hash", name := "end", desc := "(J)J" } : MethodName)) ∈ bm_big := bm_inT (bm_t2 (List.mem_of_getElem? (i := 98) rfl)) rfl
theorem bw_339 : (Cond.constantLong "BlindMint$Proposal" 58 (6)) ∈ bm_big := bm_inT (bm_t2 (List.mem_of_getElem? (i := 99) rfl)) rfl
theorem bw_340 : (Cond.constantLong "BlindMint$Proposal" 60 (5)) ∈ bm_big := bm_inT (bm_t2 (List.mem_of_getElem? (i := 100) rfl)) rfl
theorem bw_341 : (Cond.methodLink "BlindMint$Proposal" 35 ({ cls := "BlindMint$Proposal", name := "sortParts", desc := "()V" } : MethodName)) ∈ bm_big := bm_inT (bm_t2 (List.mem_of_getElem? (i := 101) rfl)) rfl
theorem bw_343 : (Cond.instanceMethod ({ cls := "BlindMint$Proposal", name := "sortParts", desc := "()V" } : MethodName)) ∈ bm_big := bm_inT (bm_t2 (List.mem_of_getElem? (i := 103) rfl)) rfl
theorem bw_344 : (Cond.code ({ cls := "BlindMint$Proposal", name := "sortParts", desc := "()V" } : MethodName) prog_10_method_6_code 3 (Option.none : Option Jvm.ClassFile.FieldType)) ∈ bm_big := bm_inT (bm_t2 (List.mem_of_getElem? (i := 104) rfl)) rfl
theorem bw_345 : (Cond.methodLink "BlindMint$Proposal" 62 ({ cls := "BlindMint$Proposal", name := "insertPart", desc := "(LBlindMint$Candidate;I)V" } : MethodName)) ∈ bm_big := bm_inT (bm_t2 (List.mem_of_getElem? (i := 105) rfl)) rfl
theorem bw_347 : (Cond.instanceMethod ({ cls := "BlindMint$Proposal", name := "insertPart", desc := "(LBlindMint$Candidate;I)V" } : MethodName)) ∈ bm_big := bm_inT (bm_t2 (List.mem_of_getElem? (i := 107) rfl)) rfl
theorem bw_348 : (Cond.code ({ cls := "BlindMint$Proposal", name := "insertPart", desc := "(LBlindMint$Candidate;I)V" } : MethodName) prog_10_method_7_code 4 (Option.none : Option Jvm.ClassFile.FieldType)) ∈ bm_big := bm_inT (bm_t2 (List.mem_of_getElem? (i := 108) rfl)) rfl
theorem bw_349 : (Cond.methodLink "BlindMint" 96 ({ cls := "BlindMint$Proposal", name := "openedCheats", desc := "(J)I" } : MethodName)) ∈ bm_big := bm_inT (bm_t2 (List.mem_of_getElem? (i := 109) rfl)) rfl
theorem bw_350 : (Cond.instanceMethod ({ cls := "BlindMint$Proposal", name := "openedCheats", desc := "(J)I" } : MethodName)) ∈ bm_big := bm_inT (bm_t2 (List.mem_of_getElem? (i := 110) rfl)) rfl
theorem bw_351 : (Cond.selects "BlindMint$Proposal" ({ cls := "BlindMint$Proposal", name := "openedCheats", desc := "(J)I" } : MethodName) ({ cls := "BlindMint$Proposal", name := "openedCheats", desc := "(J)I" } : MethodName)) ∈ bm_big := bm_inT (bm_t2 (List.mem_of_getElem? (i := 111) rfl)) rfl
theorem bw_352 : (Cond.code ({ cls := "BlindMint$Proposal", name := "openedCheats", desc := "(J)I" } : MethodName) prog_10_method_3_code 3 (Option.some FieldType.int)) ∈ bm_big := bm_inT (bm_t2 (List.mem_of_getElem? (i := 112) rfl)) rfl
theorem bw_353 : (Cond.methodLink "BlindMint$Proposal" 38 ({ cls := "BlindMint$Candidate", name := "hides", desc := "(J)Z" } : MethodName)) ∈ bm_big := bm_inT (bm_t2 (List.mem_of_getElem? (i := 113) rfl)) rfl
theorem bw_354 : (Cond.instanceMethod ({ cls := "BlindMint$Candidate", name := "hides", desc := "(J)Z" } : MethodName)) ∈ bm_big := bm_inT (bm_t2 (List.mem_of_getElem? (i := 114) rfl)) rfl
theorem bw_355 : (Cond.selects "BlindMint$Candidate" ({ cls := "BlindMint$Candidate", name := "hides", desc := "(J)Z" } : MethodName) ({ cls := "BlindMint$Candidate", name := "hides", desc := "(J)Z" } : MethodName)) ∈ bm_big := bm_inT (bm_t2 (List.mem_of_getElem? (i := 115) rfl)) rfl
theorem bw_356 : (Cond.code ({ cls := "BlindMint$Candidate", name := "hides", desc := "(J)Z" } : MethodName) prog_3_method_3_code 3 (Option.some FieldType.boolean)) ∈ bm_big := bm_inT (bm_t2 (List.mem_of_getElem? (i := 116) rfl)) rfl
theorem bw_357 : (Cond.methodLink "BlindMint" 100 ({ cls := "BlindMint", name := "makeCoin", desc := "(IJ)LBlindMint$Coin;" } : MethodName)) ∈ bm_big := bm_inT (bm_t2 (List.mem_of_getElem? (i := 117) rfl)) rfl
theorem bw_359 : (Cond.instanceMethod ({ cls := "BlindMint", name := "makeCoin", desc := "(IJ)LBlindMint$Coin;" } : MethodName)) ∈ bm_big := bm_inT (bm_t2 (List.mem_of_getElem? (i := 119) rfl)) rfl
theorem bw_360 : (Cond.code ({ cls := "BlindMint", name := "makeCoin", desc := "(IJ)LBlindMint$Coin;" } : MethodName) prog_1_method_22_code 11 (Option.some (FieldType.object "BlindMint$Coin"))) ∈ bm_big := bm_inT (bm_t2 (List.mem_of_getElem? (i := 120) rfl)) rfl
theorem bw_361 : (Cond.methodLink "BlindMint" 184 ({ cls := "BlindMint$Proposal", name := "readPairHashes", desc := "([J)V" } : MethodName)) ∈ bm_big := bm_inT (bm_t2 (List.mem_of_getElem? (i := 121) rfl)) rfl
theorem bw_362 : (Cond.instanceMethod ({ cls := "BlindMint$Proposal", name := "readPairHashes", desc := "([J)V" } : MethodName)) ∈ bm_big := bm_inT (bm_t2 (List.mem_of_getElem? (i := 122) rfl)) rfl
theorem bw_363 : (Cond.selects "BlindMint$Proposal" ({ cls := "BlindMint$Proposal", name := "readPairHashes", desc := "([J)V" } : MethodName) ({ cls := "BlindMint$Proposal", name := "readPairHashes", desc := "([J)V" } : MethodName)) ∈ bm_big := bm_inT (bm_t2 (List.mem_of_getElem? (i := 123) rfl)) rfl
theorem bw_364 : (Cond.code ({ cls := "BlindMint$Proposal", name := "readPairHashes", desc := "([J)V" } : MethodName) prog_10_method_4_code 3 (Option.none : Option Jvm.ClassFile.FieldType)) ∈ bm_big := bm_inT (bm_t2 (List.mem_of_getElem? (i := 124) rfl)) rfl
theorem bw_365 : (Cond.constantLong "BlindMint" 194 (100)) ∈ bm_big := bm_inT (bm_t2 (List.mem_of_getElem? (i := 125) rfl)) rfl
theorem bw_366 : (Cond.methodLink "BlindMint" 196 ({ cls := "BlindMint$Hash", name := "of", desc := "(JJ)J" } : MethodName)) ∈ bm_big := bm_inT (bm_t2 (List.mem_of_getElem? (i := 126) rfl)) rfl
theorem bw_367 : (Cond.methodLink "BlindMint" 200 ({ cls := "BlindMint$Denomination", name := "blindingFactor", desc := "(J)J" } : MethodName)) ∈ bm_big := bm_inT (bm_t2 (List.mem_of_getElem? (i := 127) rfl)) rfl
theorem bw_368 : (Cond.instanceMethod ({ cls := "BlindMint$Denomination", name := "blindingFactor", desc := "(J)J" } : MethodName)) ∈ bm_big := bm_inT (bm_t2 (List.mem_of_getElem? (i := 128) rfl)) rfl
theorem bw_369 : (Cond.selects "BlindMint$Denomination" ({ cls := "BlindMint$Denomination", name := "blindingFactor", desc := "(J)J" } : MethodName) ({ cls := "BlindMint$Denomination", name := "blindingFactor", desc := "(J)J" } : MethodName)) ∈ bm_big := bm_inT (bm_t2 (List.mem_of_getElem? (i := 129) rfl)) rfl
theorem bw_370 : (Cond.code ({ cls := "BlindMint$Denomination", name := "blindingFactor", desc := "(J)J" } : MethodName) prog_6_method_4_code 6 (Option.some FieldType.long)) ∈ bm_big := bm_inT (bm_t2 (List.mem_of_getElem? (i := 130) rfl)) rfl
theorem bw_371 : (Cond.methodLink "BlindMint" 204 ({ cls := "BlindMint$Denomination", name := "blind", desc := "(JJ)J" } : MethodName)) ∈ bm_big := bm_inT (bm_t2 (List.mem_of_getElem? (i := 131) rfl)) rfl
theorem bw_372 : (Cond.instanceMethod ({ cls := "BlindMint$Denomination", name := "blind", desc := "(JJ)J" } : MethodName)) ∈ bm_big := bm_inT (bm_t2 (List.mem_of_getElem? (i := 132) rfl)) rfl
theorem bw_373 : (Cond.selects "BlindMint$Denomination" ({ cls := "BlindMint$Denomination", name := "blind", desc := "(JJ)J" } : MethodName) ({ cls := "BlindMint$Denomination", name := "blind", desc := "(JJ)J" } : MethodName)) ∈ bm_big := bm_inT (bm_t2 (List.mem_of_getElem? (i := 133) rfl)) rfl
theorem bw_374 : (Cond.code ({ cls := "BlindMint$Denomination", name := "blind", desc := "(JJ)J" } : MethodName) prog_6_method_5_code 5 (Option.some FieldType.long)) ∈ bm_big := bm_inT (bm_t2 (List.mem_of_getElem? (i := 134) rfl)) rfl
theorem bw_375 : (Cond.methodLink "BlindMint$Denomination" 51 ({ cls := "BlindMint$Field", name := "multiply", desc := "(JJJ)J" } : MethodName)) ∈ bm_big := bm_inT (bm_t2 (List.mem_of_getElem? (i := 135) rfl)) rfl
theorem bw_376 : (Cond.static ({ cls := "BlindMint$Field", name := "multiply", desc := "(JJJ)J" } : MethodName)) ∈ bm_big := bm_inT (bm_t2 (List.mem_of_getElem? (i := 136) rfl)) rfl
theorem bw_377 : (Cond.code ({ cls := "BlindMint$Field", name := "multiply", desc := "(JJJ)J" } : MethodName) prog_7_method_2_code 6 (Option.some FieldType.long)) ∈ bm_big := bm_inT (bm_t2 (List.mem_of_getElem? (i := 137) rfl)) rfl
theorem bw_378 : (Cond.methodLink "BlindMint$Denomination" 54 ({ cls := "BlindMint$Denomination", name := "join", desc := "(JJ)J" } : MethodName)) ∈ bm_big := bm_inT (bm_t2 (List.mem_of_getElem? (i := 138) rfl)) rfl
theorem bw_380 : (Cond.instanceMethod ({ cls := "BlindMint$Denomination", name := "join", desc := "(JJ)J" } : MethodName)) ∈ bm_big := bm_inT (bm_t2 (List.mem_of_getElem? (i := 140) rfl)) rfl
theorem bw_381 : (Cond.instantiable "BlindMint$Denomination" 6) ∈ bm_big := bm_inT (bm_t2 (List.mem_of_getElem? (i := 141) rfl)) rfl
theorem bw_382 : (Cond.code ({ cls := "BlindMint$Denomination", name := "join", desc := "(JJ)J" } : MethodName) prog_6_method_9_code 7 (Option.some FieldType.long)) ∈ bm_big := bm_inT (bm_t2 (List.mem_of_getElem? (i := 142) rfl)) rfl
theorem bw_383 : (Cond.methodLink "BlindMint$Denomination" 64 ({ cls := "java/lang/Math", name := "floorMod", desc := "(JJ)J" } : MethodName)) ∈ bm_big := bm_inT (bm_t2 (List.mem_of_getElem? (i := 143) rfl)) rfl
theorem bw_384 : (Cond.static ({ cls := "java/lang/Math", name := "floorMod", desc := "(JJ)J" } : MethodName)) ∈ bm_big := bm_inT (bm_t2 (List.mem_of_getElem? (i := 144) rfl)) rfl
theorem bw_385 : (Cond.code ({ cls := "java/lang/Math", name := "floorMod", desc := "(JJ)J" } : MethodName) prog_18_method_52_code 6 (Option.some FieldType.long)) ∈ bm_big := bm_inT (bm_t2 (List.mem_of_getElem? (i := 145) rfl)) rfl
theorem bw_386 : (Cond.methodLink "BlindMint$Denomination" 61 ({ cls := "BlindMint$Field", name := "divide", desc := "(JJJ)J" } : MethodName)) ∈ bm_big := bm_inT (bm_t2 (List.mem_of_getElem? (i := 146) rfl)) rfl
theorem bw_387 : (Cond.static ({ cls := "BlindMint$Field", name := "divide", desc := "(JJJ)J" } : MethodName)) ∈ bm_big := bm_inT (bm_t2 (List.mem_of_getElem? (i := 147) rfl)) rfl
theorem bw_388 : (Cond.code ({ cls := "BlindMint$Field", name := "divide", desc := "(JJJ)J" } : MethodName) prog_7_method_4_code 6 (Option.some FieldType.long)) ∈ bm_big := bm_inT (bm_t2 (List.mem_of_getElem? (i := 148) rfl)) rfl
theorem bw_389 : (Cond.constantLong "BlindMint$Field" 15 (2)) ∈ bm_big := bm_inT (bm_t2 (List.mem_of_getElem? (i := 149) rfl)) rfl
theorem bw_390 : (Cond.methodLink "BlindMint$Field" 17 ({ cls := "BlindMint$Field", name := "power", desc := "(JJJ)J" } : MethodName)) ∈ bm_big := bm_inT (bm_t2 (List.mem_of_getElem? (i := 150) rfl)) rfl
theorem bw_391 : (Cond.methodLink "BlindMint$Field" 21 ({ cls := "BlindMint$Field", name := "multiply", desc := "(JJJ)J" } : MethodName)) ∈ bm_big := bm_inT (bm_t2 (List.mem_of_getElem? (i := 151) rfl)) rfl
theorem bw_392 : (Cond.methodLink "BlindMint" 207 ({ cls := "BlindMint$Denomination", name := "sign", desc := "(J)J" } : MethodName)) ∈ bm_big := bm_inT (bm_t2 (List.mem_of_getElem? (i := 152) rfl)) rfl
theorem bw_393 : (Cond.instanceMethod ({ cls := "BlindMint$Denomination", name := "sign", desc := "(J)J" } : MethodName)) ∈ bm_big := bm_inT (bm_t2 (List.mem_of_getElem? (i := 153) rfl)) rfl
theorem bw_394 : (Cond.selects "BlindMint$Denomination" ({ cls := "BlindMint$Denomination", name := "sign", desc := "(J)J" } : MethodName) ({ cls := "BlindMint$Denomination", name := "sign", desc := "(J)J" } : MethodName)) ∈ bm_big := bm_inT (bm_t2 (List.mem_of_getElem? (i := 154) rfl)) rfl
theorem bw_395 : (Cond.code ({ cls := "BlindMint$Denomination", name := "sign", desc := "(J)J" } : MethodName) prog_6_method_6_code 3 (Option.some FieldType.long)) ∈ bm_big := bm_inT (bm_t2 (List.mem_of_getElem? (i := 155) rfl)) rfl
theorem bw_396 : (Cond.methodLink "BlindMint$Denomination" 58 ({ cls := "BlindMint$Field", name := "root", desc := "(JJJ)J" } : MethodName)) ∈ bm_big := bm_inT (bm_t2 (List.mem_of_getElem? (i := 156) rfl)) rfl
theorem bw_397 : (Cond.static ({ cls := "BlindMint$Field", name := "root", desc := "(JJJ)J" } : MethodName)) ∈ bm_big := bm_inT (bm_t2 (List.mem_of_getElem? (i := 157) rfl)) rfl
theorem bw_398 : (Cond.code ({ cls := "BlindMint$Field", name := "root", desc := "(JJJ)J" } : MethodName) prog_7_method_5_code 6 (Option.some FieldType.long)) ∈ bm_big := bm_inT (bm_t2 (List.mem_of_getElem? (i := 158) rfl)) rfl
theorem bw_399 : (Cond.methodLink "BlindMint$Field" 24 ({ cls := "BlindMint$Field", name := "rootExponent", desc := "(JJ)J" } : MethodName)) ∈ bm_big := bm_inT (bm_t2 (List.mem_of_getElem? (i := 159) rfl)) rfl
theorem bw_400 : (Cond.static ({ cls := "BlindMint$Field", name := "rootExponent", desc := "(JJ)J" } : MethodName)) ∈ bm_big := bm_inT (bm_t2 (List.mem_of_getElem? (i := 160) rfl)) rfl
theorem bw_401 : (Cond.code ({ cls := "BlindMint$Field", name := "rootExponent", desc := "(JJ)J" } : MethodName) prog_7_method_6_code 8 (Option.some FieldType.long)) ∈ bm_big := bm_inT (bm_t2 (List.mem_of_getElem? (i := 161) rfl)) rfl
theorem bw_402 : (Cond.classLink "BlindMint" 123 "BlindMint$Coin") ∈ bm_big := bm_inT (bm_t2 (List.mem_of_getElem? (i := 162) rfl)) rfl
theorem bw_403 : (Cond.instantiable "BlindMint$Coin" 6) ∈ bm_big := bm_inT (bm_t2 (List.mem_of_getElem? (i := 163) rfl)) rfl
theorem bw_404 : (Cond.methodLink "BlindMint" 210 ({ cls := "BlindMint$Denomination", name := "unblind", desc := "(JJ)J" } : MethodName)) ∈ bm_big := bm_inT (bm_t2 (List.mem_of_getElem? (i := 164) rfl)) rfl
theorem bw_405 : (Cond.instanceMethod ({ cls := "BlindMint$Denomination", name := "unblind", desc := "(JJ)J" } : MethodName)) ∈ bm_big := bm_inT (bm_t2 (List.mem_of_getElem? (i := 165) rfl)) rfl
theorem bw_406 : (Cond.selects "BlindMint$Denomination" ({ cls := "BlindMint$Denomination", name := "unblind", desc := "(JJ)J" } : MethodName) ({ cls := "BlindMint$Denomination", name := "unblind", desc := "(JJ)J" } : MethodName)) ∈ bm_big := bm_inT (bm_t2 (List.mem_of_getElem? (i := 166) rfl)) rfl
theorem bw_407 : (Cond.code ({ cls := "BlindMint$Denomination", name := "unblind", desc := "(JJ)J" } : MethodName) prog_6_method_7_code 5 (Option.some FieldType.long)) ∈ bm_big := bm_inT (bm_t2 (List.mem_of_getElem? (i := 167) rfl)) rfl
theorem bw_408 : (Cond.methodLink "BlindMint" 217 ({ cls := "BlindMint$Coin", name := "<init>", desc := "(IJJ[LBlindMint$Candidate;)V" } : MethodName)) ∈ bm_big := bm_inT (bm_t2 (List.mem_of_getElem? (i := 168) rfl)) rfl
theorem bw_409 : (Cond.instanceMethod ({ cls := "BlindMint$Coin", name := "<init>", desc := "(IJJ[LBlindMint$Candidate;)V" } : MethodName)) ∈ bm_big := bm_inT (bm_t2 (List.mem_of_getElem? (i := 169) rfl)) rfl
theorem bw_410 : (Cond.code ({ cls := "BlindMint$Coin", name := "<init>", desc := "(IJJ[LBlindMint$Candidate;)V" } : MethodName) prog_4_method_1_code 10 (Option.none : Option Jvm.ClassFile.FieldType)) ∈ bm_big := bm_inT (bm_t2 (List.mem_of_getElem? (i := 170) rfl)) rfl
theorem bw_411 : (Cond.methodLink "BlindMint$Coin" 3 ({ cls := "java/lang/Object", name := "<init>", desc := "()V" } : MethodName)) ∈ bm_big := bm_inT (bm_t2 (List.mem_of_getElem? (i := 171) rfl)) rfl
theorem bw_412 : (Cond.fieldLink "BlindMint$Payment" 15 "BlindMint$Coin" "denomination" "I") ∈ bm_big := bm_inT (bm_t2 (List.mem_of_getElem? (i := 172) rfl)) rfl
theorem bw_413 : (Cond.fieldLink "BlindMint$Coin" 24 "BlindMint$Coin" "denomination" "I") ∈ bm_big := bm_inT (bm_t2 (List.mem_of_getElem? (i := 173) rfl)) rfl
theorem bw_414 : (Cond.fieldLink "BlindMint$Account" 24 "BlindMint$Coin" "denomination" "I") ∈ bm_big := bm_inT (bm_t2 (List.mem_of_getElem? (i := 174) rfl)) rfl
theorem bw_415 : (Cond.fieldLink "BlindMint$Coin" 28 "BlindMint$Coin" "number" "J") ∈ bm_big := bm_inT (bm_t2 (List.mem_of_getElem? (i := 175) rfl)) rfl
theorem bw_416 : (Cond.fieldLink "BlindMint" 170 "BlindMint$Coin" "number" "J") ∈ bm_big := bm_inT (bm_t2 (List.mem_of_getElem? (i := 176) rfl)) rfl
theorem bw_417 : (Cond.fieldLink "BlindMint$Payment" 21 "BlindMint$Coin" "signature" "J") ∈ bm_big := bm_inT (bm_t2 (List.mem_of_getElem? (i := 177) rfl)) rfl
theorem bw_418 : (Cond.fieldLink "BlindMint$Coin" 32 "BlindMint$Coin" "signature" "J") ∈ bm_big := bm_inT (bm_t2 (List.mem_of_getElem? (i := 178) rfl)) rfl
theorem bw_419 : (Cond.fieldLink "BlindMint" 173 "BlindMint$Coin" "signature" "J") ∈ bm_big := bm_inT (bm_t2 (List.mem_of_getElem? (i := 179) rfl)) rfl
theorem bw_420 : (Cond.fieldLink "BlindMint$Coin" 9 "BlindMint$Coin" "spent" "Z") ∈ bm_big := bm_inT (bm_t2 (List.mem_of_getElem? (i := 180) rfl)) rfl
theorem bw_421 : (Cond.fieldLink "BlindMint$Account" 27 "BlindMint$Coin" "spent" "Z") ∈ bm_big := bm_inT (bm_t2 (List.mem_of_getElem? (i := 181) rfl)) rfl
theorem bw_422 : (Cond.fieldLink "BlindMint" 122 "BlindMint$Coin" "spent" "Z") ∈ bm_big := bm_inT (bm_t2 (List.mem_of_getElem? (i := 182) rfl)) rfl
theorem bw_423 : (Cond.fieldLink "BlindMint$Coin" 17 "BlindMint$Coin" "toldForOne" "[J") ∈ bm_big := bm_inT (bm_t2 (List.mem_of_getElem? (i := 183) rfl)) rfl
theorem bw_424 : (Cond.fieldLink "BlindMint$Payment" 33 "BlindMint$Coin" "toldForOne" "[J") ∈ bm_big := bm_inT (bm_t2 (List.mem_of_getElem? (i := 184) rfl)) rfl
theorem bw_425 : (Cond.fieldLink "BlindMint$Coin" 21 "BlindMint$Coin" "toldForZero" "[J") ∈ bm_big := bm_inT (bm_t2 (List.mem_of_getElem? (i := 185) rfl)) rfl
theorem bw_426 : (Cond.fieldLink "BlindMint$Payment" 36 "BlindMint$Coin" "toldForZero" "[J") ∈ bm_big := bm_inT (bm_t2 (List.mem_of_getElem? (i := 186) rfl)) rfl
theorem bw_427 : (Cond.laysFinal "BlindMint$Coin" "BlindMint$Coin" "denomination" "I") ∈ bm_big := bm_inT (bm_t2 (List.mem_of_getElem? (i := 187) rfl)) rfl
theorem bw_429 : (Cond.laysFinal "BlindMint$Coin" "BlindMint$Coin" "number" "J") ∈ bm_big := bm_inT (bm_t2 (List.mem_of_getElem? (i := 189) rfl)) rfl
theorem bw_431 : (Cond.laysFinal "BlindMint$Coin" "BlindMint$Coin" "signature" "J") ∈ bm_big := bm_inT (bm_t2 (List.mem_of_getElem? (i := 191) rfl)) rfl
theorem bw_433 : (Cond.lays "BlindMint$Coin" "BlindMint$Coin" "spent" "Z") ∈ bm_big := bm_inT (bm_t2 (List.mem_of_getElem? (i := 193) rfl)) rfl
theorem bw_435 : (Cond.laysFinal "BlindMint$Coin" "BlindMint$Coin" "toldForOne" "[J") ∈ bm_big := bm_inT (bm_t2 (List.mem_of_getElem? (i := 195) rfl)) rfl
theorem bw_437 : (Cond.laysFinal "BlindMint$Coin" "BlindMint$Coin" "toldForZero" "[J") ∈ bm_big := bm_inT (bm_t2 (List.mem_of_getElem? (i := 197) rfl)) rfl
theorem bw_440 : (Cond.methodLink "BlindMint" 104 ({ cls := "BlindMint$Account", name := "keep", desc := "(LBlindMint$Coin;)I" } : MethodName)) ∈ bm_big := bm_inT (bm_t2 (List.mem_of_getElem? (i := 200) rfl)) rfl
theorem bw_441 : (Cond.instanceMethod ({ cls := "BlindMint$Account", name := "keep", desc := "(LBlindMint$Coin;)I" } : MethodName)) ∈ bm_big := bm_inT (bm_t2 (List.mem_of_getElem? (i := 201) rfl)) rfl
theorem bw_442 : (Cond.selects "BlindMint$Account" ({ cls := "BlindMint$Account", name := "keep", desc := "(LBlindMint$Coin;)I" } : MethodName) ({ cls := "BlindMint$Account", name := "keep", desc := "(LBlindMint$Coin;)I" } : MethodName)) ∈ bm_big := bm_inT (bm_t2 (List.mem_of_getElem? (i := 202) rfl)) rfl
theorem bw_443 : (Cond.code ({ cls := "BlindMint$Account", name := "keep", desc := "(LBlindMint$Coin;)I" } : MethodName) prog_2_method_3_code 2 (Option.some FieldType.int)) ∈ bm_big := bm_inT (bm_t2 (List.mem_of_getElem? (i := 203) rfl)) rfl
theorem bw_444 : (Cond.methodLink "BlindMintLaw" 64 ({ cls := "BlindMintLaw", name := "choose", desc := "(LBlindMint;II[J)I" } : MethodName)) ∈ bm_big := bm_inT (bm_t2 (List.mem_of_getElem? (i := 204) rfl)) rfl
theorem bw_445 : (Cond.static ({ cls := "BlindMintLaw", name := "choose", desc := "(LBlindMint;II[J)I" } : MethodName)) ∈ bm_big := bm_inT (bm_t2 (List.mem_of_getElem? (i := 205) rfl)) rfl
theorem bw_447 : (Cond.classLink "BlindMintLaw" 21 "java/util/NoSuchElementException") ∈ bm_big := bm_inT (bm_t2 (List.mem_of_getElem? (i := 207) rfl)) rfl
theorem bw_448 : (Cond.methodLink "BlindMintLaw" 17 ({ cls := "BlindMint", name := "choose", desc := "(II)I" } : MethodName)) ∈ bm_big := bm_inT (bm_t2 (List.mem_of_getElem? (i := 208) rfl)) rfl
theorem bw_449 : (Cond.instanceMethod ({ cls := "BlindMint", name := "choose", desc := "(II)I" } : MethodName)) ∈ bm_big := bm_inT (bm_t2 (List.mem_of_getElem? (i := 209) rfl)) rfl
theorem bw_450 : (Cond.selects "BlindMint" ({ cls := "BlindMint", name := "choose", desc := "(II)I" } : MethodName) ({ cls := "BlindMint", name := "choose", desc := "(II)I" } : MethodName)) ∈ bm_big := bm_inT (bm_t2 (List.mem_of_getElem? (i := 210) rfl)) rfl
theorem bw_451 : (Cond.code ({ cls := "BlindMint", name := "choose", desc := "(II)I" } : MethodName) prog_1_method_3_code 9 (Option.some FieldType.int)) ∈ bm_big := bm_inT (bm_t2 (List.mem_of_getElem? (i := 211) rfl)) rfl
theorem bw_452 : (Cond.methodLink "BlindMint" 111 ({ cls := "BlindMint$Account", name := "hasUnspent", desc := "(II)Z" } : MethodName)) ∈ bm_big := bm_inT (bm_t2 (List.mem_of_getElem? (i := 212) rfl)) rfl
theorem bw_453 : (Cond.instanceMethod ({ cls := "BlindMint$Account", name := "hasUnspent", desc := "(II)Z" } : MethodName)) ∈ bm_big := bm_inT (bm_t2 (List.mem_of_getElem? (i := 213) rfl)) rfl
theorem bw_454 : (Cond.selects "BlindMint$Account" ({ cls := "BlindMint$Account", name := "hasUnspent", desc := "(II)Z" } : MethodName) ({ cls := "BlindMint$Account", name := "hasUnspent", desc := "(II)Z" } : MethodName)) ∈ bm_big := bm_inT (bm_t2 (List.mem_of_getElem? (i := 214) rfl)) rfl
theorem bw_455 : (Cond.code ({ cls := "BlindMint$Account", name := "hasUnspent", desc := "(II)Z" } : MethodName) prog_2_method_4_code 3 (Option.some FieldType.boolean)) ∈ bm_big := bm_inT (bm_t2 (List.mem_of_getElem? (i := 215) rfl)) rfl
theorem bw_456 : (Cond.classLink "BlindMint" 115 "java/util/NoSuchElementException") ∈ bm_big := bm_inT (bm_t2 (List.mem_of_getElem? (i := 216) rfl)) rfl
theorem bw_457 : (Cond.instantiable "java/util/NoSuchElementException" 6) ∈ bm_big := bm_inT (bm_t2 (List.mem_of_getElem? (i := 217) rfl)) rfl
theorem bw_459 : (Cond.selects "java/util/NoSuchElementException" ({ cls := "java/lang/Throwable", name := "fillInStackTrace", desc := "(I)Ljava/lang/Throwable;" } : MethodName) ({ cls := "java/lang/Throwable", name := "fillInStackTrace", desc := "(I)Ljava/lang/Throwable;" } : MethodName)) ∈ bm_big := bm_inT (bm_t2 (List.mem_of_getElem? (i := 219) rfl)) rfl
theorem bw_460 : (Cond.lays "java/util/NoSuchElementException" "java/lang/Throwable" "cause" "Ljava/lang/Throwable;") ∈ bm_big := bm_inT (bm_t2 (List.mem_of_getElem? (i := 220) rfl)) rfl
theorem bw_461 : (Cond.lays "java/util/NoSuchElementException" "java/lang/Throwable" "stackTrace" "[Ljava/lang/StackTraceElement;") ∈ bm_big := bm_inT (bm_t2 (List.mem_of_getElem? (i := 221) rfl)) rfl
theorem bw_462 : (Cond.lays "java/util/NoSuchElementException" "java/lang/Throwable" "suppressedExceptions" "Ljava/util/List;") ∈ bm_big := bm_inT (bm_t2 (List.mem_of_getElem? (i := 222) rfl)) rfl
theorem bw_463 : (Cond.lays "java/util/NoSuchElementException" "java/lang/Throwable" "detailMessage" "Ljava/lang/String;") ∈ bm_big := bm_inT (bm_t2 (List.mem_of_getElem? (i := 223) rfl)) rfl
theorem bw_464 : (Cond.lays "java/util/NoSuchElementException" "java/lang/Throwable" "backtrace" "Ljava/lang/Object;") ∈ bm_big := bm_inT (bm_t2 (List.mem_of_getElem? (i := 224) rfl)) rfl
theorem bw_465 : (Cond.methodLink "BlindMint" 117 ({ cls := "java/util/NoSuchElementException", name := "<init>", desc := "()V" } : MethodName)) ∈ bm_big := bm_inT (bm_t2 (List.mem_of_getElem? (i := 225) rfl)) rfl
theorem bw_466 : (Cond.instanceMethod ({ cls := "java/util/NoSuchElementException", name := "<init>", desc := "()V" } : MethodName)) ∈ bm_big := bm_inT (bm_t2 (List.mem_of_getElem? (i := 226) rfl)) rfl
theorem bw_467 : (Cond.code ({ cls := "java/util/NoSuchElementException", name := "<init>", desc := "()V" } : MethodName) prog_22_method_1_code 1 (Option.none : Option Jvm.ClassFile.FieldType)) ∈ bm_big := bm_inT (bm_t2 (List.mem_of_getElem? (i := 227) rfl)) rfl
theorem bw_468 : (Cond.methodLink "java/util/NoSuchElementException" 1 ({ cls := "java/lang/RuntimeException", name := "<init>", desc := "()V" } : MethodName)) ∈ bm_big := bm_inT (bm_t2 (List.mem_of_getElem? (i := 228) rfl)) rfl
theorem bw_469 : (Cond.lays "java/util/NoSuchElementException" "java/lang/Throwable" "depth" "I") ∈ bm_big := bm_inT (bm_t2 (List.mem_of_getElem? (i := 229) rfl)) rfl
theorem bw_471 : (Cond.methodLink "BlindMintLaw" 68 ({ cls := "BlindMintLaw", name := "spend", desc := "(LBlindMint;IIII[J)I" } : MethodName)) ∈ bm_big := bm_inT (bm_t2 (List.mem_of_getElem? (i := 231) rfl)) rfl
theorem bw_472 : (Cond.static ({ cls := "BlindMintLaw", name := "spend", desc := "(LBlindMint;IIII[J)I" } : MethodName)) ∈ bm_big := bm_inT (bm_t2 (List.mem_of_getElem? (i := 232) rfl)) rfl
theorem bw_474 : (Cond.methodLink "BlindMintLaw" 23 ({ cls := "BlindMint", name := "spend", desc := "(IIII)I" } : MethodName)) ∈ bm_big := bm_inT (bm_t2 (List.mem_of_getElem? (i := 234) rfl)) rfl
theorem bw_475 : (Cond.instanceMethod ({ cls := "BlindMint", name := "spend", desc := "(IIII)I" } : MethodName)) ∈ bm_big := bm_inT (bm_t2 (List.mem_of_getElem? (i := 235) rfl)) rfl
theorem bw_476 : (Cond.selects "BlindMint" ({ cls := "BlindMint", name := "spend", desc := "(IIII)I" } : MethodName) ({ cls := "BlindMint", name := "spend", desc := "(IIII)I" } : MethodName)) ∈ bm_big := bm_inT (bm_t2 (List.mem_of_getElem? (i := 236) rfl)) rfl
theorem bw_477 : (Cond.code ({ cls := "BlindMint", name := "spend", desc := "(IIII)I" } : MethodName) prog_1_method_4_code 6 (Option.some FieldType.int)) ∈ bm_big := bm_inT (bm_t2 (List.mem_of_getElem? (i := 237) rfl)) rfl
theorem bw_478 : (Cond.methodLink "BlindMint" 118 ({ cls := "BlindMint", name := "findCoin", desc := "(II)LBlindMint$Coin;" } : MethodName)) ∈ bm_big := bm_inT (bm_t2 (List.mem_of_getElem? (i := 238) rfl)) rfl
theorem bw_480 : (Cond.instanceMethod ({ cls := "BlindMint", name := "findCoin", desc := "(II)LBlindMint$Coin;" } : MethodName)) ∈ bm_big := bm_inT (bm_t3 (List.mem_of_getElem? (i := 0) rfl)) rfl
theorem bw_481 : (Cond.code ({ cls := "BlindMint", name := "findCoin", desc := "(II)LBlindMint$Coin;" } : MethodName) prog_1_method_20_code 3 (Option.some (FieldType.object "BlindMint$Coin"))) ∈ bm_big := bm_inT (bm_t3 (List.mem_of_getElem? (i := 1) rfl)) rfl
theorem bw_482 : (Cond.instantiable "BlindMint$Payment" 1) ∈ bm_big := bm_inT (bm_t3 (List.mem_of_getElem? (i := 2) rfl)) rfl
theorem bw_483 : (Cond.methodLink "BlindMint" 128 ({ cls := "BlindMint$Payment", name := "<init>", desc := "(LBlindMint$Coin;II)V" } : MethodName)) ∈ bm_big := bm_inT (bm_t3 (List.mem_of_getElem? (i := 3) rfl)) rfl
theorem bw_484 : (Cond.instanceMethod ({ cls := "BlindMint$Payment", name := "<init>", desc := "(LBlindMint$Coin;II)V" } : MethodName)) ∈ bm_big := bm_inT (bm_t3 (List.mem_of_getElem? (i := 4) rfl)) rfl
theorem bw_485 : (Cond.code ({ cls := "BlindMint$Payment", name := "<init>", desc := "(LBlindMint$Coin;II)V" } : MethodName) prog_9_method_1_code 8 (Option.none : Option Jvm.ClassFile.FieldType)) ∈ bm_big := bm_inT (bm_t3 (List.mem_of_getElem? (i := 5) rfl)) rfl
theorem bw_486 : (Cond.methodLink "BlindMint$Payment" 5 ({ cls := "java/lang/Object", name := "<init>", desc := "()V" } : MethodName)) ∈ bm_big := bm_inT (bm_t3 (List.mem_of_getElem? (i := 6) rfl)) rfl
theorem bw_487 : (Cond.methodLink "BlindMint$Payment" 43 ({ cls := "java/lang/System", name := "arraycopy", desc := "(Ljava/lang/Object;ILjava/lang/Object;II)V" } : MethodName)) ∈ bm_big := bm_inT (bm_t3 (List.mem_of_getElem? (i := 7) rfl)) rfl
theorem bw_488 : (Cond.static ({ cls := "java/lang/System", name := "arraycopy", desc := "(Ljava/lang/Object;ILjava/lang/Object;II)V" } : MethodName)) ∈ bm_big := bm_inT (bm_t3 (List.mem_of_getElem? (i := 8) rfl)) rfl
theorem bw_489 : (Cond.native ({ cls := "java/lang/System", name := "arraycopy", desc := "(Ljava/lang/Object;ILjava/lang/Object;II)V" } : MethodName)) ∈ bm_big := bm_inT (bm_t3 (List.mem_of_getElem? (i := 9) rfl)) rfl
theorem bw_490 : (Cond.fieldLink "BlindMint$Payment" 11 "BlindMint$Payment" "numbers" "[J") ∈ bm_big := bm_inT (bm_t3 (List.mem_of_getElem? (i := 10) rfl)) rfl
theorem bw_491 : (Cond.fieldLink "BlindMint" 138 "BlindMint$Payment" "numbers" "[J") ∈ bm_big := bm_inT (bm_t3 (List.mem_of_getElem? (i := 11) rfl)) rfl
theorem bw_492 : (Cond.laysFinal "BlindMint$Payment" "BlindMint$Payment" "numbers" "[J") ∈ bm_big := bm_inT (bm_t3 (List.mem_of_getElem? (i := 12) rfl)) rfl
theorem bw_495 : (Cond.methodLink "BlindMintLaw" 72 ({ cls := "BlindMintLaw", name := "tamper", desc := "(LBlindMint;IIJ[J)I" } : MethodName)) ∈ bm_big := bm_inT (bm_t3 (List.mem_of_getElem? (i := 15) rfl)) rfl
theorem bw_496 : (Cond.static ({ cls := "BlindMintLaw", name := "tamper", desc := "(LBlindMint;IIJ[J)I" } : MethodName)) ∈ bm_big := bm_inT (bm_t3 (List.mem_of_getElem? (i := 16) rfl)) rfl
theorem bw_498 : (Cond.methodLink "BlindMintLaw" 27 ({ cls := "BlindMint", name := "tamper", desc := "(IIJ)J" } : MethodName)) ∈ bm_big := bm_inT (bm_t3 (List.mem_of_getElem? (i := 18) rfl)) rfl
theorem bw_499 : (Cond.instanceMethod ({ cls := "BlindMint", name := "tamper", desc := "(IIJ)J" } : MethodName)) ∈ bm_big := bm_inT (bm_t3 (List.mem_of_getElem? (i := 19) rfl)) rfl
theorem bw_500 : (Cond.selects "BlindMint" ({ cls := "BlindMint", name := "tamper", desc := "(IIJ)J" } : MethodName) ({ cls := "BlindMint", name := "tamper", desc := "(IIJ)J" } : MethodName)) ∈ bm_big := bm_inT (bm_t3 (List.mem_of_getElem? (i := 20) rfl)) rfl
theorem bw_501 : (Cond.code ({ cls := "BlindMint", name := "tamper", desc := "(IIJ)J" } : MethodName) prog_1_method_5_code 6 (Option.some FieldType.long)) ∈ bm_big := bm_inT (bm_t3 (List.mem_of_getElem? (i := 21) rfl)) rfl
theorem bw_502 : (Cond.methodLink "BlindMint" 135 ({ cls := "BlindMint$Payment", name := "hasNumber", desc := "(I)Z" } : MethodName)) ∈ bm_big := bm_inT (bm_t3 (List.mem_of_getElem? (i := 22) rfl)) rfl
theorem bw_503 : (Cond.static ({ cls := "BlindMint$Payment", name := "hasNumber", desc := "(I)Z" } : MethodName)) ∈ bm_big := bm_inT (bm_t3 (List.mem_of_getElem? (i := 23) rfl)) rfl
theorem bw_504 : (Cond.code ({ cls := "BlindMint$Payment", name := "hasNumber", desc := "(I)Z" } : MethodName) prog_9_method_2_code 1 (Option.some FieldType.boolean)) ∈ bm_big := bm_inT (bm_t3 (List.mem_of_getElem? (i := 24) rfl)) rfl
theorem bw_505 : (Cond.methodLink "BlindMintLaw" 76 ({ cls := "BlindMintLaw", name := "number", desc := "(LBlindMint;II[J)I" } : MethodName)) ∈ bm_big := bm_inT (bm_t3 (List.mem_of_getElem? (i := 25) rfl)) rfl
theorem bw_506 : (Cond.static ({ cls := "BlindMintLaw", name := "number", desc := "(LBlindMint;II[J)I" } : MethodName)) ∈ bm_big := bm_inT (bm_t3 (List.mem_of_getElem? (i := 26) rfl)) rfl
theorem bw_508 : (Cond.methodLink "BlindMintLaw" 31 ({ cls := "BlindMint", name := "number", desc := "(II)J" } : MethodName)) ∈ bm_big := bm_inT (bm_t3 (List.mem_of_getElem? (i := 28) rfl)) rfl
theorem bw_509 : (Cond.instanceMethod ({ cls := "BlindMint", name := "number", desc := "(II)J" } : MethodName)) ∈ bm_big := bm_inT (bm_t3 (List.mem_of_getElem? (i := 29) rfl)) rfl
theorem bw_510 : (Cond.selects "BlindMint" ({ cls := "BlindMint", name := "number", desc := "(II)J" } : MethodName) ({ cls := "BlindMint", name := "number", desc := "(II)J" } : MethodName)) ∈ bm_big := bm_inT (bm_t3 (List.mem_of_getElem? (i := 30) rfl)) rfl
theorem bw_511 : (Cond.code ({ cls := "BlindMint", name := "number", desc := "(II)J" } : MethodName) prog_1_method_6_code 4 (Option.some FieldType.long)) ∈ bm_big := bm_inT (bm_t3 (List.mem_of_getElem? (i := 31) rfl)) rfl
theorem bw_512 : (Cond.methodLink "BlindMintLaw" 84 ({ cls := "BlindMintLaw", name := "deposit", desc := "(LBlindMint;II[J)I" } : MethodName)) ∈ bm_big := bm_inT (bm_t3 (List.mem_of_getElem? (i := 32) rfl)) rfl
theorem bw_513 : (Cond.static ({ cls := "BlindMintLaw", name := "deposit", desc := "(LBlindMint;II[J)I" } : MethodName)) ∈ bm_big := bm_inT (bm_t3 (List.mem_of_getElem? (i := 33) rfl)) rfl
theorem bw_515 : (Cond.methodLink "BlindMintLaw" 35 ({ cls := "BlindMint", name := "deposit", desc := "(II)I" } : MethodName)) ∈ bm_big := bm_inT (bm_t3 (List.mem_of_getElem? (i := 35) rfl)) rfl
theorem bw_516 : (Cond.instanceMethod ({ cls := "BlindMint", name := "deposit", desc := "(II)I" } : MethodName)) ∈ bm_big := bm_inT (bm_t3 (List.mem_of_getElem? (i := 36) rfl)) rfl
theorem bw_517 : (Cond.selects "BlindMint" ({ cls := "BlindMint", name := "deposit", desc := "(II)I" } : MethodName) ({ cls := "BlindMint", name := "deposit", desc := "(II)I" } : MethodName)) ∈ bm_big := bm_inT (bm_t3 (List.mem_of_getElem? (i := 37) rfl)) rfl
theorem bw_518 : (Cond.code ({ cls := "BlindMint", name := "deposit", desc := "(II)I" } : MethodName) prog_1_method_8_code 6 (Option.some FieldType.int)) ∈ bm_big := bm_inT (bm_t3 (List.mem_of_getElem? (i := 38) rfl)) rfl
theorem bw_519 : (Cond.methodLink "BlindMint" 149 ({ cls := "BlindMint", name := "findCredit", desc := "(J)LBlindMint$Credit;" } : MethodName)) ∈ bm_big := bm_inT (bm_t3 (List.mem_of_getElem? (i := 39) rfl)) rfl
theorem bw_521 : (Cond.instanceMethod ({ cls := "BlindMint", name := "findCredit", desc := "(J)LBlindMint$Credit;" } : MethodName)) ∈ bm_big := bm_inT (bm_t3 (List.mem_of_getElem? (i := 41) rfl)) rfl
theorem bw_522 : (Cond.code ({ cls := "BlindMint", name := "findCredit", desc := "(J)LBlindMint$Credit;" } : MethodName) prog_1_method_24_code 4 (Option.some (FieldType.object "BlindMint$Credit"))) ∈ bm_big := bm_inT (bm_t3 (List.mem_of_getElem? (i := 42) rfl)) rfl
theorem bw_523 : (Cond.methodLink "BlindMint" 228 ({ cls := "BlindMint$Credit", name := "isOf", desc := "(J[J)Z" } : MethodName)) ∈ bm_big := bm_inT (bm_t3 (List.mem_of_getElem? (i := 43) rfl)) rfl
theorem bw_524 : (Cond.instanceMethod ({ cls := "BlindMint$Credit", name := "isOf", desc := "(J[J)Z" } : MethodName)) ∈ bm_big := bm_inT (bm_t3 (List.mem_of_getElem? (i := 44) rfl)) rfl
theorem bw_525 : (Cond.selects "BlindMint$Credit" ({ cls := "BlindMint$Credit", name := "isOf", desc := "(J[J)Z" } : MethodName) ({ cls := "BlindMint$Credit", name := "isOf", desc := "(J[J)Z" } : MethodName)) ∈ bm_big := bm_inT (bm_t3 (List.mem_of_getElem? (i := 45) rfl)) rfl
theorem bw_526 : (Cond.code ({ cls := "BlindMint$Credit", name := "isOf", desc := "(J[J)Z" } : MethodName) prog_5_method_2_code 6 (Option.some FieldType.boolean)) ∈ bm_big := bm_inT (bm_t3 (List.mem_of_getElem? (i := 46) rfl)) rfl
theorem bw_527 : (Cond.methodLink "BlindMint" 153 ({ cls := "BlindMint$Credit", name := "revealedIdentity", desc := "(LBlindMint$Payment;)J" } : MethodName)) ∈ bm_big := bm_inT (bm_t3 (List.mem_of_getElem? (i := 47) rfl)) rfl
theorem bw_528 : (Cond.instanceMethod ({ cls := "BlindMint$Credit", name := "revealedIdentity", desc := "(LBlindMint$Payment;)J" } : MethodName)) ∈ bm_big := bm_inT (bm_t3 (List.mem_of_getElem? (i := 48) rfl)) rfl
theorem bw_529 : (Cond.selects "BlindMint$Credit" ({ cls := "BlindMint$Credit", name := "revealedIdentity", desc := "(LBlindMint$Payment;)J" } : MethodName) ({ cls := "BlindMint$Credit", name := "revealedIdentity", desc := "(LBlindMint$Payment;)J" } : MethodName)) ∈ bm_big := bm_inT (bm_t3 (List.mem_of_getElem? (i := 49) rfl)) rfl
theorem bw_530 : (Cond.code ({ cls := "BlindMint$Credit", name := "revealedIdentity", desc := "(LBlindMint$Payment;)J" } : MethodName) prog_5_method_3_code 5 (Option.some FieldType.long)) ∈ bm_big := bm_inT (bm_t3 (List.mem_of_getElem? (i := 50) rfl)) rfl
theorem bw_531 : (Cond.methodLink "BlindMint$Credit" 27 ({ cls := "BlindMint$Payment", name := "challenge", desc := "()J" } : MethodName)) ∈ bm_big := bm_inT (bm_t3 (List.mem_of_getElem? (i := 51) rfl)) rfl
theorem bw_533 : (Cond.methodLink "BlindMint$Credit" 32 ({ cls := "BlindMint$Payment", name := "half", desc := "(I)J" } : MethodName)) ∈ bm_big := bm_inT (bm_t3 (List.mem_of_getElem? (i := 53) rfl)) rfl
theorem bw_534 : (Cond.instanceMethod ({ cls := "BlindMint$Payment", name := "half", desc := "(I)J" } : MethodName)) ∈ bm_big := bm_inT (bm_t3 (List.mem_of_getElem? (i := 54) rfl)) rfl
theorem bw_535 : (Cond.selects "BlindMint$Payment" ({ cls := "BlindMint$Payment", name := "half", desc := "(I)J" } : MethodName) ({ cls := "BlindMint$Payment", name := "half", desc := "(I)J" } : MethodName)) ∈ bm_big := bm_inT (bm_t3 (List.mem_of_getElem? (i := 55) rfl)) rfl
theorem bw_536 : (Cond.code ({ cls := "BlindMint$Payment", name := "half", desc := "(I)J" } : MethodName) prog_9_method_6_code 2 (Option.some FieldType.long)) ∈ bm_big := bm_inT (bm_t3 (List.mem_of_getElem? (i := 56) rfl)) rfl
theorem bw_537 : (Cond.constantLong "BlindMint$Credit" 44 (-1)) ∈ bm_big := bm_inT (bm_t3 (List.mem_of_getElem? (i := 57) rfl)) rfl
theorem bw_538 : (Cond.methodLink "BlindMint" 159 ({ cls := "BlindMint", name := "accountOf", desc := "(J)I" } : MethodName)) ∈ bm_big := bm_inT (bm_t3 (List.mem_of_getElem? (i := 58) rfl)) rfl
theorem bw_539 : (Cond.static ({ cls := "BlindMint", name := "accountOf", desc := "(J)I" } : MethodName)) ∈ bm_big := bm_inT (bm_t3 (List.mem_of_getElem? (i := 59) rfl)) rfl
theorem bw_540 : (Cond.code ({ cls := "BlindMint", name := "accountOf", desc := "(J)I" } : MethodName) prog_1_method_19_code 3 (Option.some FieldType.int)) ∈ bm_big := bm_inT (bm_t3 (List.mem_of_getElem? (i := 60) rfl)) rfl
theorem bw_541 : (Cond.constantLong "BlindMint" 176 (1000)) ∈ bm_big := bm_inT (bm_t3 (List.mem_of_getElem? (i := 61) rfl)) rfl
theorem bw_542 : (Cond.constantLong "BlindMint" 178 (1004)) ∈ bm_big := bm_inT (bm_t3 (List.mem_of_getElem? (i := 62) rfl)) rfl
theorem bw_543 : (Cond.classLink "BlindMint" 154 "BlindMint$Credit") ∈ bm_big := bm_inT (bm_t3 (List.mem_of_getElem? (i := 63) rfl)) rfl
theorem bw_544 : (Cond.instantiable "BlindMint$Credit" 5) ∈ bm_big := bm_inT (bm_t3 (List.mem_of_getElem? (i := 64) rfl)) rfl
theorem bw_545 : (Cond.methodLink "BlindMint" 162 ({ cls := "[J", name := "clone", desc := "()Ljava/lang/Object;" } : MethodName)) ∈ bm_big := bm_inT (bm_t3 (List.mem_of_getElem? (i := 65) rfl)) rfl
theorem bw_546 : (Cond.sameMethod "[J" "java/lang/Object" "clone" "()Ljava/lang/Object;") ∈ bm_big := bm_inT (bm_t3 (List.mem_of_getElem? (i := 66) rfl)) rfl
theorem bw_547 : (Cond.native ({ cls := "java/lang/Object", name := "clone", desc := "()Ljava/lang/Object;" } : MethodName)) ∈ bm_big := bm_inT (bm_t3 (List.mem_of_getElem? (i := 67) rfl)) rfl
theorem bw_548 : (Cond.instanceMethod ({ cls := "java/lang/Object", name := "clone", desc := "()Ljava/lang/Object;" } : MethodName)) ∈ bm_big := bm_inT (bm_t3 (List.mem_of_getElem? (i := 68) rfl)) rfl
theorem bw_549 : (Cond.selects "[J" ({ cls := "[J", name := "clone", desc := "()Ljava/lang/Object;" } : MethodName) ({ cls := "java/lang/Object", name := "clone", desc := "()Ljava/lang/Object;" } : MethodName)) ∈ bm_big := bm_inT (bm_t3 (List.mem_of_getElem? (i := 69) rfl)) rfl
theorem bw_551 : (Cond.classLink "BlindMint" 163 "[J") ∈ bm_big := bm_inT (bm_t3 (List.mem_of_getElem? (i := 71) rfl)) rfl
theorem bw_552 : (Cond.methodLink "BlindMint" 167 ({ cls := "BlindMint$Credit", name := "<init>", desc := "(LBlindMint$Payment;[JLBlindMint$Credit;)V" } : MethodName)) ∈ bm_big := bm_inT (bm_t3 (List.mem_of_getElem? (i := 72) rfl)) rfl
theorem bw_553 : (Cond.instanceMethod ({ cls := "BlindMint$Credit", name := "<init>", desc := "(LBlindMint$Payment;[JLBlindMint$Credit;)V" } : MethodName)) ∈ bm_big := bm_inT (bm_t3 (List.mem_of_getElem? (i := 73) rfl)) rfl
theorem bw_554 : (Cond.code ({ cls := "BlindMint$Credit", name := "<init>", desc := "(LBlindMint$Payment;[JLBlindMint$Credit;)V" } : MethodName) prog_5_method_1_code 5 (Option.none : Option Jvm.ClassFile.FieldType)) ∈ bm_big := bm_inT (bm_t3 (List.mem_of_getElem? (i := 74) rfl)) rfl
theorem bw_555 : (Cond.methodLink "BlindMint$Credit" 3 ({ cls := "java/lang/Object", name := "<init>", desc := "()V" } : MethodName)) ∈ bm_big := bm_inT (bm_t3 (List.mem_of_getElem? (i := 75) rfl)) rfl
theorem bw_556 : (Cond.methodLink "BlindMint$Credit" 15 ({ cls := "BlindMint$Payment", name := "denomination", desc := "()J" } : MethodName)) ∈ bm_big := bm_inT (bm_t3 (List.mem_of_getElem? (i := 76) rfl)) rfl
theorem bw_557 : (Cond.fieldLink "BlindMint$Credit" 21 "BlindMint$Credit" "denomination" "J") ∈ bm_big := bm_inT (bm_t3 (List.mem_of_getElem? (i := 77) rfl)) rfl
theorem bw_558 : (Cond.fieldLink "BlindMint$Credit" 24 "BlindMint$Credit" "pairHashes" "[J") ∈ bm_big := bm_inT (bm_t3 (List.mem_of_getElem? (i := 78) rfl)) rfl
theorem bw_559 : (Cond.fieldLink "BlindMint$Credit" 30 "BlindMint$Credit" "challenge" "J") ∈ bm_big := bm_inT (bm_t3 (List.mem_of_getElem? (i := 79) rfl)) rfl
theorem bw_560 : (Cond.fieldLink "BlindMint$Credit" 9 "BlindMint$Credit" "halves" "[J") ∈ bm_big := bm_inT (bm_t3 (List.mem_of_getElem? (i := 80) rfl)) rfl
theorem bw_561 : (Cond.fieldLink "BlindMint$Credit" 36 "BlindMint$Credit" "before" "LBlindMint$Credit;") ∈ bm_big := bm_inT (bm_t3 (List.mem_of_getElem? (i := 81) rfl)) rfl
theorem bw_562 : (Cond.fieldLink "BlindMint" 232 "BlindMint$Credit" "before" "LBlindMint$Credit;") ∈ bm_big := bm_inT (bm_t3 (List.mem_of_getElem? (i := 82) rfl)) rfl
theorem bw_563 : (Cond.laysFinal "BlindMint$Credit" "BlindMint$Credit" "denomination" "J") ∈ bm_big := bm_inT (bm_t3 (List.mem_of_getElem? (i := 83) rfl)) rfl
theorem bw_565 : (Cond.laysFinal "BlindMint$Credit" "BlindMint$Credit" "pairHashes" "[J") ∈ bm_big := bm_inT (bm_t3 (List.mem_of_getElem? (i := 85) rfl)) rfl
theorem bw_567 : (Cond.laysFinal "BlindMint$Credit" "BlindMint$Credit" "challenge" "J") ∈ bm_big := bm_inT (bm_t3 (List.mem_of_getElem? (i := 87) rfl)) rfl
theorem bw_569 : (Cond.laysFinal "BlindMint$Credit" "BlindMint$Credit" "halves" "[J") ∈ bm_big := bm_inT (bm_t3 (List.mem_of_getElem? (i := 89) rfl)) rfl
theorem bw_571 : (Cond.laysFinal "BlindMint$Credit" "BlindMint$Credit" "before" "LBlindMint$Credit;") ∈ bm_big := bm_inT (bm_t3 (List.mem_of_getElem? (i := 91) rfl)) rfl
theorem bw_574 : (Cond.methodLink "BlindMintLaw" 91 ({ cls := "BlindMintLaw", name := "balance", desc := "(LBlindMint;I[J)I" } : MethodName)) ∈ bm_big := bm_inT (bm_t3 (List.mem_of_getElem? (i := 94) rfl)) rfl
theorem bw_575 : (Cond.static ({ cls := "BlindMintLaw", name := "balance", desc := "(LBlindMint;I[J)I" } : MethodName)) ∈ bm_big := bm_inT (bm_t3 (List.mem_of_getElem? (i := 95) rfl)) rfl
theorem bw_577 : (Cond.methodLink "BlindMintLaw" 38 ({ cls := "BlindMint", name := "balance", desc := "(I)I" } : MethodName)) ∈ bm_big := bm_inT (bm_t3 (List.mem_of_getElem? (i := 97) rfl)) rfl
theorem bw_578 : (Cond.instanceMethod ({ cls := "BlindMint", name := "balance", desc := "(I)I" } : MethodName)) ∈ bm_big := bm_inT (bm_t3 (List.mem_of_getElem? (i := 98) rfl)) rfl
theorem bw_579 : (Cond.selects "BlindMint" ({ cls := "BlindMint", name := "balance", desc := "(I)I" } : MethodName) ({ cls := "BlindMint", name := "balance", desc := "(I)I" } : MethodName)) ∈ bm_big := bm_inT (bm_t3 (List.mem_of_getElem? (i := 99) rfl)) rfl
theorem bw_580 : (Cond.code ({ cls := "BlindMint", name := "balance", desc := "(I)I" } : MethodName) prog_1_method_10_code 2 (Option.some FieldType.int)) ∈ bm_big := bm_inT (bm_t3 (List.mem_of_getElem? (i := 100) rfl)) rfl
theorem bw_581 : (Cond.methodLink "BlindMintLaw" 99 ({ cls := "BlindMintLaw", name := "coin", desc := "(LBlindMint;II[J)I" } : MethodName)) ∈ bm_big := bm_inT (bm_t3 (List.mem_of_getElem? (i := 101) rfl)) rfl
theorem bw_582 : (Cond.static ({ cls := "BlindMintLaw", name := "coin", desc := "(LBlindMint;II[J)I" } : MethodName)) ∈ bm_big := bm_inT (bm_t3 (List.mem_of_getElem? (i := 102) rfl)) rfl
theorem bw_584 : (Cond.methodLink "BlindMintLaw" 42 ({ cls := "BlindMint", name := "coin", desc := "(II)J" } : MethodName)) ∈ bm_big := bm_inT (bm_t3 (List.mem_of_getElem? (i := 104) rfl)) rfl
theorem bw_585 : (Cond.instanceMethod ({ cls := "BlindMint", name := "coin", desc := "(II)J" } : MethodName)) ∈ bm_big := bm_inT (bm_t3 (List.mem_of_getElem? (i := 105) rfl)) rfl
theorem bw_586 : (Cond.selects "BlindMint" ({ cls := "BlindMint", name := "coin", desc := "(II)J" } : MethodName) ({ cls := "BlindMint", name := "coin", desc := "(II)J" } : MethodName)) ∈ bm_big := bm_inT (bm_t3 (List.mem_of_getElem? (i := 106) rfl)) rfl
theorem bw_587 : (Cond.code ({ cls := "BlindMint", name := "coin", desc := "(II)J" } : MethodName) prog_1_method_12_code 4 (Option.some FieldType.long)) ∈ bm_big := bm_inT (bm_t3 (List.mem_of_getElem? (i := 107) rfl)) rfl
theorem bw_588 : (Cond.methodLink "BlindMintLaw" 102 ({ cls := "BlindMintLaw", name := "signature", desc := "(LBlindMint;II[J)I" } : MethodName)) ∈ bm_big := bm_inT (bm_t3 (List.mem_of_getElem? (i := 108) rfl)) rfl
theorem bw_589 : (Cond.static ({ cls := "BlindMintLaw", name := "signature", desc := "(LBlindMint;II[J)I" } : MethodName)) ∈ bm_big := bm_inT (bm_t3 (List.mem_of_getElem? (i := 109) rfl)) rfl
theorem bw_591 : (Cond.methodLink "BlindMintLaw" 45 ({ cls := "BlindMint", name := "signature", desc := "(II)J" } : MethodName)) ∈ bm_big := bm_inT (bm_t3 (List.mem_of_getElem? (i := 111) rfl)) rfl
theorem bw_592 : (Cond.instanceMethod ({ cls := "BlindMint", name := "signature", desc := "(II)J" } : MethodName)) ∈ bm_big := bm_inT (bm_t3 (List.mem_of_getElem? (i := 112) rfl)) rfl
theorem bw_593 : (Cond.selects "BlindMint" ({ cls := "BlindMint", name := "signature", desc := "(II)J" } : MethodName) ({ cls := "BlindMint", name := "signature", desc := "(II)J" } : MethodName)) ∈ bm_big := bm_inT (bm_t3 (List.mem_of_getElem? (i := 113) rfl)) rfl
theorem bw_594 : (Cond.code ({ cls := "BlindMint", name := "signature", desc := "(II)J" } : MethodName) prog_1_method_13_code 4 (Option.some FieldType.long)) ∈ bm_big := bm_inT (bm_t3 (List.mem_of_getElem? (i := 114) rfl)) rfl
theorem bw_595 : (Cond.classLink "BlindMintLaw" 49 "BlindMintModel") ∈ bm_big := bm_inT (bm_t3 (List.mem_of_getElem? (i := 115) rfl)) rfl
theorem bw_596 : (Cond.instantiable "BlindMintModel" 22) ∈ bm_big := bm_inT (bm_t3 (List.mem_of_getElem? (i := 116) rfl)) rfl
theorem bw_597 : (Cond.methodLink "BlindMintLaw" 51 ({ cls := "BlindMintModel", name := "<init>", desc := "()V" } : MethodName)) ∈ bm_big := bm_inT (bm_t3 (List.mem_of_getElem? (i := 117) rfl)) rfl
theorem bw_598 : (Cond.instanceMethod ({ cls := "BlindMintModel", name := "<init>", desc := "()V" } : MethodName)) ∈ bm_big := bm_inT (bm_t3 (List.mem_of_getElem? (i := 118) rfl)) rfl
theorem bw_599 : (Cond.code ({ cls := "BlindMintModel", name := "<init>", desc := "()V" } : MethodName) prog_12_method_1_code 2 (Option.none : Option Jvm.ClassFile.FieldType)) ∈ bm_big := bm_inT (bm_t3 (List.mem_of_getElem? (i := 119) rfl)) rfl
theorem bw_600 : (Cond.methodLink "BlindMintModel" 1 ({ cls := "java/lang/Object", name := "<init>", desc := "()V" } : MethodName)) ∈ bm_big := bm_inT (bm_t3 (List.mem_of_getElem? (i := 120) rfl)) rfl
theorem bw_601 : (Cond.constantLong "BlindMintModel" 20 (-1)) ∈ bm_big := bm_inT (bm_t3 (List.mem_of_getElem? (i := 121) rfl)) rfl
theorem bw_602 : (Cond.fieldLink "BlindMintModel" 73 "BlindMintModel" "thrown" "I") ∈ bm_big := bm_inT (bm_t3 (List.mem_of_getElem? (i := 122) rfl)) rfl
theorem bw_603 : (Cond.fieldLink "BlindMintModel" 7 "BlindMintModel" "money" "[I") ∈ bm_big := bm_inT (bm_t3 (List.mem_of_getElem? (i := 123) rfl)) rfl
theorem bw_604 : (Cond.fieldLink "BlindMintModel" 13 "BlindMintModel" "counts" "[I") ∈ bm_big := bm_inT (bm_t3 (List.mem_of_getElem? (i := 124) rfl)) rfl
theorem bw_605 : (Cond.fieldLink "BlindMintModel" 16 "BlindMintModel" "traced" "I") ∈ bm_big := bm_inT (bm_t3 (List.mem_of_getElem? (i := 125) rfl)) rfl
theorem bw_606 : (Cond.fieldLink "BlindMintModel" 22 "BlindMintModel" "blinded" "J") ∈ bm_big := bm_inT (bm_t3 (List.mem_of_getElem? (i := 126) rfl)) rfl
theorem bw_607 : (Cond.fieldLink "BlindMintModel" 26 "BlindMintModel" "coins" "[I") ∈ bm_big := bm_inT (bm_t3 (List.mem_of_getElem? (i := 127) rfl)) rfl
theorem bw_608 : (Cond.fieldLink "BlindMintModel" 29 "BlindMintModel" "sort" "[I") ∈ bm_big := bm_inT (bm_t3 (List.mem_of_getElem? (i := 128) rfl)) rfl
theorem bw_609 : (Cond.fieldLink "BlindMintModel" 32 "BlindMintModel" "numbers" "[J") ∈ bm_big := bm_inT (bm_t3 (List.mem_of_getElem? (i := 129) rfl)) rfl
theorem bw_610 : (Cond.fieldLink "BlindMintModel" 36 "BlindMintModel" "signs" "[J") ∈ bm_big := bm_inT (bm_t3 (List.mem_of_getElem? (i := 130) rfl)) rfl
theorem bw_611 : (Cond.fieldLink "BlindMintModel" 39 "BlindMintModel" "spent" "[Z") ∈ bm_big := bm_inT (bm_t3 (List.mem_of_getElem? (i := 131) rfl)) rfl
theorem bw_612 : (Cond.fieldLink "BlindMintModel" 43 "BlindMintModel" "parts" "[J") ∈ bm_big := bm_inT (bm_t3 (List.mem_of_getElem? (i := 132) rfl)) rfl
theorem bw_613 : (Cond.fieldLink "BlindMintModel" 171 "BlindMintModel" "payments" "I") ∈ bm_big := bm_inT (bm_t3 (List.mem_of_getElem? (i := 133) rfl)) rfl
theorem bw_614 : (Cond.fieldLink "BlindMintModel" 46 "BlindMintModel" "rows" "[J") ∈ bm_big := bm_inT (bm_t3 (List.mem_of_getElem? (i := 134) rfl)) rfl
theorem bw_615 : (Cond.fieldLink "BlindMintModel" 192 "BlindMintModel" "deposits" "I") ∈ bm_big := bm_inT (bm_t3 (List.mem_of_getElem? (i := 135) rfl)) rfl
theorem bw_616 : (Cond.fieldLink "BlindMintModel" 49 "BlindMintModel" "taken" "[J") ∈ bm_big := bm_inT (bm_t3 (List.mem_of_getElem? (i := 136) rfl)) rfl
theorem bw_617 : (Cond.fieldLink "BlindMintModel" 52 "BlindMintModel" "a" "[J") ∈ bm_big := bm_inT (bm_t3 (List.mem_of_getElem? (i := 137) rfl)) rfl
theorem bw_618 : (Cond.fieldLink "BlindMintModel" 55 "BlindMintModel" "b" "[J") ∈ bm_big := bm_inT (bm_t3 (List.mem_of_getElem? (i := 138) rfl)) rfl
theorem bw_619 : (Cond.fieldLink "BlindMintModel" 58 "BlindMintModel" "c" "[J") ∈ bm_big := bm_inT (bm_t3 (List.mem_of_getElem? (i := 139) rfl)) rfl
theorem bw_620 : (Cond.fieldLink "BlindMintModel" 61 "BlindMintModel" "e" "[J") ∈ bm_big := bm_inT (bm_t3 (List.mem_of_getElem? (i := 140) rfl)) rfl
theorem bw_621 : (Cond.fieldLink "BlindMintModel" 64 "BlindMintModel" "pair" "[J") ∈ bm_big := bm_inT (bm_t3 (List.mem_of_getElem? (i := 141) rfl)) rfl
theorem bw_622 : (Cond.fieldLink "BlindMintModel" 67 "BlindMintModel" "left" "[Z") ∈ bm_big := bm_inT (bm_t3 (List.mem_of_getElem? (i := 142) rfl)) rfl
theorem bw_623 : (Cond.fieldLink "BlindMintModel" 70 "BlindMintModel" "hashes" "[J") ∈ bm_big := bm_inT (bm_t3 (List.mem_of_getElem? (i := 143) rfl)) rfl
theorem bw_624 : (Cond.lays "BlindMintModel" "BlindMintModel" "thrown" "I") ∈ bm_big := bm_inT (bm_t3 (List.mem_of_getElem? (i := 144) rfl)) rfl
theorem bw_626 : (Cond.laysFinal "BlindMintModel" "BlindMintModel" "money" "[I") ∈ bm_big := bm_inT (bm_t3 (List.mem_of_getElem? (i := 146) rfl)) rfl
theorem bw_628 : (Cond.laysFinal "BlindMintModel" "BlindMintModel" "counts" "[I") ∈ bm_big := bm_inT (bm_t3 (List.mem_of_getElem? (i := 148) rfl)) rfl
theorem bw_630 : (Cond.lays "BlindMintModel" "BlindMintModel" "traced" "I") ∈ bm_big := bm_inT (bm_t3 (List.mem_of_getElem? (i := 150) rfl)) rfl
theorem bw_632 : (Cond.lays "BlindMintModel" "BlindMintModel" "blinded" "J") ∈ bm_big := bm_inT (bm_t3 (List.mem_of_getElem? (i := 152) rfl)) rfl
theorem bw_634 : (Cond.laysFinal "BlindMintModel" "BlindMintModel" "coins" "[I") ∈ bm_big := bm_inT (bm_t3 (List.mem_of_getElem? (i := 154) rfl)) rfl
theorem bw_636 : (Cond.laysFinal "BlindMintModel" "BlindMintModel" "sort" "[I") ∈ bm_big := bm_inT (bm_t3 (List.mem_of_getElem? (i := 156) rfl)) rfl
theorem bw_638 : (Cond.laysFinal "BlindMintModel" "BlindMintModel" "numbers" "[J") ∈ bm_big := bm_inT (bm_t3 (List.mem_of_getElem? (i := 158) rfl)) rfl
theorem bw_640 : (Cond.laysFinal "BlindMintModel" "BlindMintModel" "signs" "[J") ∈ bm_big := bm_inT (bm_t3 (List.mem_of_getElem? (i := 160) rfl)) rfl
theorem bw_642 : (Cond.laysFinal "BlindMintModel" "BlindMintModel" "spent" "[Z") ∈ bm_big := bm_inT (bm_t3 (List.mem_of_getElem? (i := 162) rfl)) rfl
theorem bw_644 : (Cond.laysFinal "BlindMintModel" "BlindMintModel" "parts" "[J") ∈ bm_big := bm_inT (bm_t3 (List.mem_of_getElem? (i := 164) rfl)) rfl
theorem bw_646 : (Cond.lays "BlindMintModel" "BlindMintModel" "payments" "I") ∈ bm_big := bm_inT (bm_t3 (List.mem_of_getElem? (i := 166) rfl)) rfl
theorem bw_648 : (Cond.laysFinal "BlindMintModel" "BlindMintModel" "rows" "[J") ∈ bm_big := bm_inT (bm_t3 (List.mem_of_getElem? (i := 168) rfl)) rfl
theorem bw_650 : (Cond.lays "BlindMintModel" "BlindMintModel" "deposits" "I") ∈ bm_big := bm_inT (bm_t3 (List.mem_of_getElem? (i := 170) rfl)) rfl
theorem bw_652 : (Cond.laysFinal "BlindMintModel" "BlindMintModel" "taken" "[J") ∈ bm_big := bm_inT (bm_t3 (List.mem_of_getElem? (i := 172) rfl)) rfl
theorem bw_654 : (Cond.laysFinal "BlindMintModel" "BlindMintModel" "a" "[J") ∈ bm_big := bm_inT (bm_t3 (List.mem_of_getElem? (i := 174) rfl)) rfl
theorem bw_656 : (Cond.laysFinal "BlindMintModel" "BlindMintModel" "b" "[J") ∈ bm_big := bm_inT (bm_t3 (List.mem_of_getElem? (i := 176) rfl)) rfl
theorem bw_658 : (Cond.laysFinal "BlindMintModel" "BlindMintModel" "c" "[J") ∈ bm_big := bm_inT (bm_t3 (List.mem_of_getElem? (i := 178) rfl)) rfl
theorem bw_660 : (Cond.laysFinal "BlindMintModel" "BlindMintModel" "e" "[J") ∈ bm_big := bm_inT (bm_t3 (List.mem_of_getElem? (i := 180) rfl)) rfl
theorem bw_662 : (Cond.laysFinal "BlindMintModel" "BlindMintModel" "pair" "[J") ∈ bm_big := bm_inT (bm_t3 (List.mem_of_getElem? (i := 182) rfl)) rfl
theorem bw_664 : (Cond.laysFinal "BlindMintModel" "BlindMintModel" "left" "[Z") ∈ bm_big := bm_inT (bm_t3 (List.mem_of_getElem? (i := 184) rfl)) rfl
theorem bw_666 : (Cond.laysFinal "BlindMintModel" "BlindMintModel" "hashes" "[J") ∈ bm_big := bm_inT (bm_t3 (List.mem_of_getElem? (i := 186) rfl)) rfl
theorem bw_669 : (Cond.arrayClass FieldType.int) ∈ bm_big := bm_inT (bm_t3 (List.mem_of_getElem? (i := 189) rfl)) rfl
theorem bw_670 : (Cond.arrayClass FieldType.boolean) ∈ bm_big := bm_inT (bm_t3 (List.mem_of_getElem? (i := 190) rfl)) rfl
theorem bw_671 : (Cond.methodLink "BlindMintLaw" 60 ({ cls := "BlindMintModel", name := "thrown", desc := "()I" } : MethodName)) ∈ bm_big := bm_inT (bm_t3 (List.mem_of_getElem? (i := 191) rfl)) rfl
theorem bw_672 : (Cond.instanceMethod ({ cls := "BlindMintModel", name := "thrown", desc := "()I" } : MethodName)) ∈ bm_big := bm_inT (bm_t3 (List.mem_of_getElem? (i := 192) rfl)) rfl
theorem bw_673 : (Cond.selects "BlindMintModel" ({ cls := "BlindMintModel", name := "thrown", desc := "()I" } : MethodName) ({ cls := "BlindMintModel", name := "thrown", desc := "()I" } : MethodName)) ∈ bm_big := bm_inT (bm_t3 (List.mem_of_getElem? (i := 193) rfl)) rfl
theorem bw_674 : (Cond.code ({ cls := "BlindMintModel", name := "thrown", desc := "()I" } : MethodName) prog_12_method_3_code 1 (Option.some FieldType.int)) ∈ bm_big := bm_inT (bm_t3 (List.mem_of_getElem? (i := 194) rfl)) rfl
theorem bw_675 : (Cond.methodLink "BlindMintLaw" 59 ({ cls := "BlindMintModel", name := "withdraw", desc := "(IIJI)I" } : MethodName)) ∈ bm_big := bm_inT (bm_t3 (List.mem_of_getElem? (i := 195) rfl)) rfl
theorem bw_676 : (Cond.instanceMethod ({ cls := "BlindMintModel", name := "withdraw", desc := "(IIJI)I" } : MethodName)) ∈ bm_big := bm_inT (bm_t3 (List.mem_of_getElem? (i := 196) rfl)) rfl
theorem bw_677 : (Cond.selects "BlindMintModel" ({ cls := "BlindMintModel", name := "withdraw", desc := "(IIJI)I" } : MethodName) ({ cls := "BlindMintModel", name := "withdraw", desc := "(IIJI)I" } : MethodName)) ∈ bm_big := bm_inT (bm_t3 (List.mem_of_getElem? (i := 197) rfl)) rfl
theorem bw_678 : (Cond.code ({ cls := "BlindMintModel", name := "withdraw", desc := "(IIJI)I" } : MethodName) prog_12_method_21_code 10 (Option.some FieldType.int)) ∈ bm_big := bm_inT (bm_t3 (List.mem_of_getElem? (i := 198) rfl)) rfl
theorem bw_679 : (Cond.methodLink "BlindMintModel" 136 ({ cls := "BlindMintModel", name := "below", desc := "(II)Z" } : MethodName)) ∈ bm_big := bm_inT (bm_t3 (List.mem_of_getElem? (i := 199) rfl)) rfl
theorem bw_680 : (Cond.static ({ cls := "BlindMintModel", name := "below", desc := "(II)Z" } : MethodName)) ∈ bm_big := bm_inT (bm_t3 (List.mem_of_getElem? (i := 200) rfl)) rfl
theorem bw_681 : (Cond.code ({ cls := "BlindMintModel", name := "below", desc := "(II)Z" } : MethodName) prog_12_method_4_code 2 (Option.some FieldType.boolean)) ∈ bm_big := bm_inT (bm_t3 (List.mem_of_getElem? (i := 201) rfl)) rfl
theorem bw_682 : (Cond.methodLink "BlindMintModel" 140 ({ cls := "BlindMintModel", name := "fail", desc := "(I)I" } : MethodName)) ∈ bm_big := bm_inT (bm_t3 (List.mem_of_getElem? (i := 202) rfl)) rfl
theorem bw_684 : (Cond.instanceMethod ({ cls := "BlindMintModel", name := "fail", desc := "(I)I" } : MethodName)) ∈ bm_big := bm_inT (bm_t3 (List.mem_of_getElem? (i := 204) rfl)) rfl
theorem bw_685 : (Cond.code ({ cls := "BlindMintModel", name := "fail", desc := "(I)I" } : MethodName) prog_12_method_2_code 2 (Option.some FieldType.int)) ∈ bm_big := bm_inT (bm_t3 (List.mem_of_getElem? (i := 205) rfl)) rfl
theorem bw_686 : (Cond.methodLink "BlindMintModel" 144 ({ cls := "BlindMintModel", name := "worth", desc := "(I)I" } : MethodName)) ∈ bm_big := bm_inT (bm_t3 (List.mem_of_getElem? (i := 206) rfl)) rfl
theorem bw_687 : (Cond.static ({ cls := "BlindMintModel", name := "worth", desc := "(I)I" } : MethodName)) ∈ bm_big := bm_inT (bm_t3 (List.mem_of_getElem? (i := 207) rfl)) rfl
theorem bw_688 : (Cond.code ({ cls := "BlindMintModel", name := "worth", desc := "(I)I" } : MethodName) prog_12_method_11_code 1 (Option.some FieldType.int)) ∈ bm_big := bm_inT (bm_t3 (List.mem_of_getElem? (i := 208) rfl)) rfl
theorem bw_689 : (Cond.methodLink "BlindMintModel" 147 ({ cls := "BlindMintModel", name := "candidates", desc := "(IJI)V" } : MethodName)) ∈ bm_big := bm_inT (bm_t3 (List.mem_of_getElem? (i := 209) rfl)) rfl
theorem bw_691 : (Cond.instanceMethod ({ cls := "BlindMintModel", name := "candidates", desc := "(IJI)V" } : MethodName)) ∈ bm_big := bm_inT (bm_t3 (List.mem_of_getElem? (i := 211) rfl)) rfl
theorem bw_692 : (Cond.code ({ cls := "BlindMintModel", name := "candidates", desc := "(IJI)V" } : MethodName) prog_12_method_18_code 8 (Option.none : Option Jvm.ClassFile.FieldType)) ∈ bm_big := bm_inT (bm_t3 (List.mem_of_getElem? (i := 212) rfl)) rfl
theorem bw_693 : (Cond.constantLong "BlindMintModel" 128 (3)) ∈ bm_big := bm_inT (bm_t3 (List.mem_of_getElem? (i := 213) rfl)) rfl
theorem bw_694 : (Cond.methodLink "BlindMintModel" 125 ({ cls := "BlindMintModel", name := "hash2", desc := "(JJ)J" } : MethodName)) ∈ bm_big := bm_inT (bm_t3 (List.mem_of_getElem? (i := 214) rfl)) rfl
theorem bw_695 : (Cond.static ({ cls := "BlindMintModel", name := "hash2", desc := "(JJ)J" } : MethodName)) ∈ bm_big := bm_inT (bm_t3 (List.mem_of_getElem? (i := 215) rfl)) rfl
theorem bw_696 : (Cond.code ({ cls := "BlindMintModel", name := "hash2", desc := "(JJ)J" } : MethodName) prog_12_method_7_code 4 (Option.some FieldType.long)) ∈ bm_big := bm_inT (bm_t3 (List.mem_of_getElem? (i := 216) rfl)) rfl
theorem bw_697 : (Cond.constantLong "BlindMintModel" 82 (7)) ∈ bm_big := bm_inT (bm_t3 (List.mem_of_getElem? (i := 217) rfl)) rfl
theorem bw_698 : (Cond.methodLink "BlindMintModel" 84 ({ cls := "BlindMintModel", name := "absorb", desc := "(JJ)J" } : MethodName)) ∈ bm_big := bm_inT (bm_t3 (List.mem_of_getElem? (i := 218) rfl)) rfl
theorem bw_699 : (Cond.static ({ cls := "BlindMintModel", name := "absorb", desc := "(JJ)J" } : MethodName)) ∈ bm_big := bm_inT (bm_t3 (List.mem_of_getElem? (i := 219) rfl)) rfl
theorem bw_700 : (Cond.code ({ cls := "BlindMintModel", name := "absorb", desc := "(JJ)J" } : MethodName) prog_12_method_5_code 6 (Option.some FieldType.long)) ∈ bm_big := bm_inT (bm_t3 (List.mem_of_getElem? (i := 220) rfl)) rfl
theorem bw_701 : (Cond.constantLong "BlindMintModel" 76 (6364136223846793005)) ∈ bm_big := bm_inT (bm_t3 (List.mem_of_getElem? (i := 221) rfl)) rfl
theorem bw_702 : (Cond.constantLong "BlindMintModel" 78 (1442695040888963407)) ∈ bm_big := bm_inT (bm_t3 (List.mem_of_getElem? (i := 222) rfl)) rfl
theorem bw_703 : (Cond.methodLink "BlindMintModel" 88 ({ cls := "BlindMintModel", name := "low", desc := "(J)J" } : MethodName)) ∈ bm_big := bm_inT (bm_t3 (List.mem_of_getElem? (i := 223) rfl)) rfl
theorem bw_704 : (Cond.static ({ cls := "BlindMintModel", name := "low", desc := "(J)J" } : MethodName)) ∈ bm_big := bm_inT (bm_t3 (List.mem_of_getElem? (i := 224) rfl)) rfl
theorem bw_705 : (Cond.code ({ cls := "BlindMintModel", name := "low", desc := "(J)J" } : MethodName) prog_12_method_6_code 2 (Option.some FieldType.long)) ∈ bm_big := bm_inT (bm_t3 (List.mem_of_getElem? (i := 225) rfl)) rfl
theorem bw_706 : (Cond.constantLong "BlindMintModel" 80 (576460752303423487)) ∈ bm_big := bm_inT (bm_t3 (List.mem_of_getElem? (i := 226) rfl)) rfl
theorem bw_707 : (Cond.constantLong "BlindMintModel" 108 (2)) ∈ bm_big := bm_inT (bm_t3 (List.mem_of_getElem? (i := 227) rfl)) rfl
theorem bw_708 : (Cond.constantLong "BlindMintModel" 130 (1000)) ∈ bm_big := bm_inT (bm_t3 (List.mem_of_getElem? (i := 228) rfl)) rfl
theorem bw_709 : (Cond.methodLink "BlindMintModel" 151 ({ cls := "BlindMintModel", name := "open", desc := "(I)I" } : MethodName)) ∈ bm_big := bm_inT (bm_t3 (List.mem_of_getElem? (i := 229) rfl)) rfl
theorem bw_711 : (Cond.instanceMethod ({ cls := "BlindMintModel", name := "open", desc := "(I)I" } : MethodName)) ∈ bm_big := bm_inT (bm_t3 (List.mem_of_getElem? (i := 231) rfl)) rfl
theorem bw_712 : (Cond.code ({ cls := "BlindMintModel", name := "open", desc := "(I)I" } : MethodName) prog_12_method_19_code 6 (Option.some FieldType.int)) ∈ bm_big := bm_inT (bm_t3 (List.mem_of_getElem? (i := 232) rfl)) rfl
theorem bw_713 : (Cond.constantLong "BlindMintModel" 132 (6)) ∈ bm_big := bm_inT (bm_t3 (List.mem_of_getElem? (i := 233) rfl)) rfl
theorem bw_714 : (Cond.constantLong "BlindMintModel" 134 (5)) ∈ bm_big := bm_inT (bm_t3 (List.mem_of_getElem? (i := 234) rfl)) rfl
theorem bw_715 : (Cond.methodLink "BlindMintModel" 154 ({ cls := "BlindMintModel", name := "least", desc := "()I" } : MethodName)) ∈ bm_big := bm_inT (bm_t3 (List.mem_of_getElem? (i := 235) rfl)) rfl
theorem bw_717 : (Cond.instanceMethod ({ cls := "BlindMintModel", name := "least", desc := "()I" } : MethodName)) ∈ bm_big := bm_inT (bm_t3 (List.mem_of_getElem? (i := 237) rfl)) rfl
theorem bw_718 : (Cond.code ({ cls := "BlindMintModel", name := "least", desc := "()I" } : MethodName) prog_12_method_20_code 3 (Option.some FieldType.int)) ∈ bm_big := bm_inT (bm_t3 (List.mem_of_getElem? (i := 238) rfl)) rfl
theorem bw_719 : (Cond.methodLink "BlindMintModel" 158 ({ cls := "BlindMintModel", name := "numberOf", desc := "(J)J" } : MethodName)) ∈ bm_big := bm_inT (bm_t3 (List.mem_of_getElem? (i := 239) rfl)) rfl
theorem bw_721 : (Cond.instanceMethod ({ cls := "BlindMintModel", name := "numberOf", desc := "(J)J" } : MethodName)) ∈ bm_big := bm_inT (bm_t4 (List.mem_of_getElem? (i := 1) rfl)) rfl
theorem bw_722 : (Cond.code ({ cls := "BlindMintModel", name := "numberOf", desc := "(J)J" } : MethodName) prog_12_method_9_code 6 (Option.some FieldType.long)) ∈ bm_big := bm_inT (bm_t4 (List.mem_of_getElem? (i := 2) rfl)) rfl
theorem bw_723 : (Cond.methodLink "BlindMintModel" 161 ({ cls := "BlindMintModel", name := "signed", desc := "(JI)J" } : MethodName)) ∈ bm_big := bm_inT (bm_t4 (List.mem_of_getElem? (i := 3) rfl)) rfl
theorem bw_724 : (Cond.static ({ cls := "BlindMintModel", name := "signed", desc := "(JI)J" } : MethodName)) ∈ bm_big := bm_inT (bm_t4 (List.mem_of_getElem? (i := 4) rfl)) rfl
theorem bw_725 : (Cond.code ({ cls := "BlindMintModel", name := "signed", desc := "(JI)J" } : MethodName) prog_12_method_15_code 7 (Option.some FieldType.long)) ∈ bm_big := bm_inT (bm_t4 (List.mem_of_getElem? (i := 5) rfl)) rfl
theorem bw_726 : (Cond.methodLink "BlindMintModel" 104 ({ cls := "BlindMintModel", name := "factor", desc := "(IZ)J" } : MethodName)) ∈ bm_big := bm_inT (bm_t4 (List.mem_of_getElem? (i := 6) rfl)) rfl
theorem bw_727 : (Cond.static ({ cls := "BlindMintModel", name := "factor", desc := "(IZ)J" } : MethodName)) ∈ bm_big := bm_inT (bm_t4 (List.mem_of_getElem? (i := 7) rfl)) rfl
theorem bw_728 : (Cond.code ({ cls := "BlindMintModel", name := "factor", desc := "(IZ)J" } : MethodName) prog_12_method_10_code 2 (Option.some FieldType.long)) ∈ bm_big := bm_inT (bm_t4 (List.mem_of_getElem? (i := 8) rfl)) rfl
theorem bw_729 : (Cond.constantLong "BlindMintModel" 92 (1000000007)) ∈ bm_big := bm_inT (bm_t4 (List.mem_of_getElem? (i := 9) rfl)) rfl
theorem bw_730 : (Cond.constantLong "BlindMintModel" 94 (1073741789)) ∈ bm_big := bm_inT (bm_t4 (List.mem_of_getElem? (i := 10) rfl)) rfl
theorem bw_731 : (Cond.constantLong "BlindMintModel" 96 (900000011)) ∈ bm_big := bm_inT (bm_t4 (List.mem_of_getElem? (i := 11) rfl)) rfl
theorem bw_732 : (Cond.constantLong "BlindMintModel" 98 (998244389)) ∈ bm_big := bm_inT (bm_t4 (List.mem_of_getElem? (i := 12) rfl)) rfl
theorem bw_733 : (Cond.constantLong "BlindMintModel" 100 (1020000011)) ∈ bm_big := bm_inT (bm_t4 (List.mem_of_getElem? (i := 13) rfl)) rfl
theorem bw_734 : (Cond.constantLong "BlindMintModel" 102 (1050000041)) ∈ bm_big := bm_inT (bm_t4 (List.mem_of_getElem? (i := 14) rfl)) rfl
theorem bw_735 : (Cond.methodLink "BlindMintModel" 116 ({ cls := "BlindMintModel", name := "undo", desc := "(J)J" } : MethodName)) ∈ bm_big := bm_inT (bm_t4 (List.mem_of_getElem? (i := 15) rfl)) rfl
theorem bw_736 : (Cond.static ({ cls := "BlindMintModel", name := "undo", desc := "(J)J" } : MethodName)) ∈ bm_big := bm_inT (bm_t4 (List.mem_of_getElem? (i := 16) rfl)) rfl
theorem bw_737 : (Cond.code ({ cls := "BlindMintModel", name := "undo", desc := "(J)J" } : MethodName) prog_12_method_14_code 4 (Option.some FieldType.long)) ∈ bm_big := bm_inT (bm_t4 (List.mem_of_getElem? (i := 17) rfl)) rfl
theorem bw_738 : (Cond.constantLong "BlindMintModel" 114 (17)) ∈ bm_big := bm_inT (bm_t4 (List.mem_of_getElem? (i := 18) rfl)) rfl
theorem bw_739 : (Cond.methodLink "BlindMintModel" 110 ({ cls := "BlindMintModel", name := "power", desc := "(JJJ)J" } : MethodName)) ∈ bm_big := bm_inT (bm_t4 (List.mem_of_getElem? (i := 19) rfl)) rfl
theorem bw_740 : (Cond.static ({ cls := "BlindMintModel", name := "power", desc := "(JJJ)J" } : MethodName)) ∈ bm_big := bm_inT (bm_t4 (List.mem_of_getElem? (i := 20) rfl)) rfl
theorem bw_741 : (Cond.code ({ cls := "BlindMintModel", name := "power", desc := "(JJJ)J" } : MethodName) prog_12_method_12_code 12 (Option.some FieldType.long)) ∈ bm_big := bm_inT (bm_t4 (List.mem_of_getElem? (i := 21) rfl)) rfl
theorem bw_742 : (Cond.methodLink "BlindMintModel" 119 ({ cls := "BlindMintModel", name := "join", desc := "(JJI)J" } : MethodName)) ∈ bm_big := bm_inT (bm_t4 (List.mem_of_getElem? (i := 22) rfl)) rfl
theorem bw_743 : (Cond.static ({ cls := "BlindMintModel", name := "join", desc := "(JJI)J" } : MethodName)) ∈ bm_big := bm_inT (bm_t4 (List.mem_of_getElem? (i := 23) rfl)) rfl
theorem bw_744 : (Cond.code ({ cls := "BlindMintModel", name := "join", desc := "(JJI)J" } : MethodName) prog_12_method_13_code 13 (Option.some FieldType.long)) ∈ bm_big := bm_inT (bm_t4 (List.mem_of_getElem? (i := 24) rfl)) rfl
theorem bw_745 : (Cond.methodLink "BlindMintModel" 165 ({ cls := "BlindMintModel", name := "blind", desc := "(JJI)J" } : MethodName)) ∈ bm_big := bm_inT (bm_t4 (List.mem_of_getElem? (i := 25) rfl)) rfl
theorem bw_746 : (Cond.static ({ cls := "BlindMintModel", name := "blind", desc := "(JJI)J" } : MethodName)) ∈ bm_big := bm_inT (bm_t4 (List.mem_of_getElem? (i := 26) rfl)) rfl
theorem bw_747 : (Cond.code ({ cls := "BlindMintModel", name := "blind", desc := "(JJI)J" } : MethodName) prog_12_method_17_code 11 (Option.some FieldType.long)) ∈ bm_big := bm_inT (bm_t4 (List.mem_of_getElem? (i := 27) rfl)) rfl
theorem bw_748 : (Cond.constantLong "BlindMintModel" 123 (100)) ∈ bm_big := bm_inT (bm_t4 (List.mem_of_getElem? (i := 28) rfl)) rfl
theorem bw_749 : (Cond.methodLink "BlindMintLaw" 67 ({ cls := "BlindMintModel", name := "choose", desc := "(II)I" } : MethodName)) ∈ bm_big := bm_inT (bm_t4 (List.mem_of_getElem? (i := 29) rfl)) rfl
theorem bw_750 : (Cond.instanceMethod ({ cls := "BlindMintModel", name := "choose", desc := "(II)I" } : MethodName)) ∈ bm_big := bm_inT (bm_t4 (List.mem_of_getElem? (i := 30) rfl)) rfl
theorem bw_751 : (Cond.selects "BlindMintModel" ({ cls := "BlindMintModel", name := "choose", desc := "(II)I" } : MethodName) ({ cls := "BlindMintModel", name := "choose", desc := "(II)I" } : MethodName)) ∈ bm_big := bm_inT (bm_t4 (List.mem_of_getElem? (i := 31) rfl)) rfl
theorem bw_752 : (Cond.code ({ cls := "BlindMintModel", name := "choose", desc := "(II)I" } : MethodName) prog_12_method_22_code 9 (Option.some FieldType.int)) ∈ bm_big := bm_inT (bm_t4 (List.mem_of_getElem? (i := 32) rfl)) rfl
theorem bw_753 : (Cond.methodLink "BlindMintLaw" 71 ({ cls := "BlindMintModel", name := "spend", desc := "(IIII)I" } : MethodName)) ∈ bm_big := bm_inT (bm_t4 (List.mem_of_getElem? (i := 33) rfl)) rfl
theorem bw_754 : (Cond.instanceMethod ({ cls := "BlindMintModel", name := "spend", desc := "(IIII)I" } : MethodName)) ∈ bm_big := bm_inT (bm_t4 (List.mem_of_getElem? (i := 34) rfl)) rfl
theorem bw_755 : (Cond.selects "BlindMintModel" ({ cls := "BlindMintModel", name := "spend", desc := "(IIII)I" } : MethodName) ({ cls := "BlindMintModel", name := "spend", desc := "(IIII)I" } : MethodName)) ∈ bm_big := bm_inT (bm_t4 (List.mem_of_getElem? (i := 35) rfl)) rfl
theorem bw_756 : (Cond.code ({ cls := "BlindMintModel", name := "spend", desc := "(IIII)I" } : MethodName) prog_12_method_24_code 14 (Option.some FieldType.int)) ∈ bm_big := bm_inT (bm_t4 (List.mem_of_getElem? (i := 36) rfl)) rfl
theorem bw_757 : (Cond.methodLink "BlindMintModel" 168 ({ cls := "BlindMintModel", name := "noCoin", desc := "(II)Z" } : MethodName)) ∈ bm_big := bm_inT (bm_t4 (List.mem_of_getElem? (i := 37) rfl)) rfl
theorem bw_759 : (Cond.instanceMethod ({ cls := "BlindMintModel", name := "noCoin", desc := "(II)Z" } : MethodName)) ∈ bm_big := bm_inT (bm_t4 (List.mem_of_getElem? (i := 39) rfl)) rfl
theorem bw_760 : (Cond.code ({ cls := "BlindMintModel", name := "noCoin", desc := "(II)Z" } : MethodName) prog_12_method_23_code 3 (Option.some FieldType.boolean)) ∈ bm_big := bm_inT (bm_t4 (List.mem_of_getElem? (i := 40) rfl)) rfl
theorem bw_761 : (Cond.methodLink "BlindMintModel" 174 ({ cls := "BlindMintModel", name := "hash3", desc := "(JJJ)J" } : MethodName)) ∈ bm_big := bm_inT (bm_t4 (List.mem_of_getElem? (i := 41) rfl)) rfl
theorem bw_762 : (Cond.static ({ cls := "BlindMintModel", name := "hash3", desc := "(JJJ)J" } : MethodName)) ∈ bm_big := bm_inT (bm_t4 (List.mem_of_getElem? (i := 42) rfl)) rfl
theorem bw_763 : (Cond.code ({ cls := "BlindMintModel", name := "hash3", desc := "(JJJ)J" } : MethodName) prog_12_method_8_code 6 (Option.some FieldType.long)) ∈ bm_big := bm_inT (bm_t4 (List.mem_of_getElem? (i := 43) rfl)) rfl
theorem bw_764 : (Cond.methodLink "BlindMintLaw" 75 ({ cls := "BlindMintModel", name := "tamper", desc := "(IIJ)J" } : MethodName)) ∈ bm_big := bm_inT (bm_t4 (List.mem_of_getElem? (i := 44) rfl)) rfl
theorem bw_765 : (Cond.instanceMethod ({ cls := "BlindMintModel", name := "tamper", desc := "(IIJ)J" } : MethodName)) ∈ bm_big := bm_inT (bm_t4 (List.mem_of_getElem? (i := 45) rfl)) rfl
theorem bw_766 : (Cond.selects "BlindMintModel" ({ cls := "BlindMintModel", name := "tamper", desc := "(IIJ)J" } : MethodName) ({ cls := "BlindMintModel", name := "tamper", desc := "(IIJ)J" } : MethodName)) ∈ bm_big := bm_inT (bm_t4 (List.mem_of_getElem? (i := 46) rfl)) rfl
theorem bw_767 : (Cond.code ({ cls := "BlindMintModel", name := "tamper", desc := "(IIJ)J" } : MethodName) prog_12_method_26_code 5 (Option.some FieldType.long)) ∈ bm_big := bm_inT (bm_t4 (List.mem_of_getElem? (i := 47) rfl)) rfl
theorem bw_768 : (Cond.methodLink "BlindMintModel" 177 ({ cls := "BlindMintModel", name := "noNumber", desc := "(II)Z" } : MethodName)) ∈ bm_big := bm_inT (bm_t4 (List.mem_of_getElem? (i := 48) rfl)) rfl
theorem bw_770 : (Cond.instanceMethod ({ cls := "BlindMintModel", name := "noNumber", desc := "(II)Z" } : MethodName)) ∈ bm_big := bm_inT (bm_t4 (List.mem_of_getElem? (i := 50) rfl)) rfl
theorem bw_771 : (Cond.code ({ cls := "BlindMintModel", name := "noNumber", desc := "(II)Z" } : MethodName) prog_12_method_25_code 3 (Option.some FieldType.boolean)) ∈ bm_big := bm_inT (bm_t4 (List.mem_of_getElem? (i := 51) rfl)) rfl
theorem bw_772 : (Cond.methodLink "BlindMintLaw" 78 ({ cls := "BlindMintModel", name := "number", desc := "(II)J" } : MethodName)) ∈ bm_big := bm_inT (bm_t4 (List.mem_of_getElem? (i := 52) rfl)) rfl
theorem bw_773 : (Cond.instanceMethod ({ cls := "BlindMintModel", name := "number", desc := "(II)J" } : MethodName)) ∈ bm_big := bm_inT (bm_t4 (List.mem_of_getElem? (i := 53) rfl)) rfl
theorem bw_774 : (Cond.selects "BlindMintModel" ({ cls := "BlindMintModel", name := "number", desc := "(II)J" } : MethodName) ({ cls := "BlindMintModel", name := "number", desc := "(II)J" } : MethodName)) ∈ bm_big := bm_inT (bm_t4 (List.mem_of_getElem? (i := 54) rfl)) rfl
theorem bw_775 : (Cond.code ({ cls := "BlindMintModel", name := "number", desc := "(II)J" } : MethodName) prog_12_method_27_code 3 (Option.some FieldType.long)) ∈ bm_big := bm_inT (bm_t4 (List.mem_of_getElem? (i := 55) rfl)) rfl
theorem bw_776 : (Cond.methodLink "BlindMintLaw" 83 ({ cls := "BlindMintModel", name := "good", desc := "(I)Z" } : MethodName)) ∈ bm_big := bm_inT (bm_t4 (List.mem_of_getElem? (i := 56) rfl)) rfl
theorem bw_777 : (Cond.instanceMethod ({ cls := "BlindMintModel", name := "good", desc := "(I)Z" } : MethodName)) ∈ bm_big := bm_inT (bm_t4 (List.mem_of_getElem? (i := 57) rfl)) rfl
theorem bw_778 : (Cond.selects "BlindMintModel" ({ cls := "BlindMintModel", name := "good", desc := "(I)Z" } : MethodName) ({ cls := "BlindMintModel", name := "good", desc := "(I)Z" } : MethodName)) ∈ bm_big := bm_inT (bm_t4 (List.mem_of_getElem? (i := 58) rfl)) rfl
theorem bw_779 : (Cond.code ({ cls := "BlindMintModel", name := "good", desc := "(I)Z" } : MethodName) prog_12_method_30_code 2 (Option.some FieldType.boolean)) ∈ bm_big := bm_inT (bm_t4 (List.mem_of_getElem? (i := 59) rfl)) rfl
theorem bw_780 : (Cond.methodLink "BlindMintModel" 188 ({ cls := "BlindMintModel", name := "isGood", desc := "(I)Z" } : MethodName)) ∈ bm_big := bm_inT (bm_t4 (List.mem_of_getElem? (i := 60) rfl)) rfl
theorem bw_782 : (Cond.instanceMethod ({ cls := "BlindMintModel", name := "isGood", desc := "(I)Z" } : MethodName)) ∈ bm_big := bm_inT (bm_t4 (List.mem_of_getElem? (i := 62) rfl)) rfl
theorem bw_783 : (Cond.code ({ cls := "BlindMintModel", name := "isGood", desc := "(I)Z" } : MethodName) prog_12_method_29_code 9 (Option.some FieldType.boolean)) ∈ bm_big := bm_inT (bm_t4 (List.mem_of_getElem? (i := 63) rfl)) rfl
theorem bw_784 : (Cond.methodLink "BlindMintModel" 180 ({ cls := "BlindMintModel", name := "choiceOf", desc := "(I)J" } : MethodName)) ∈ bm_big := bm_inT (bm_t4 (List.mem_of_getElem? (i := 64) rfl)) rfl
theorem bw_786 : (Cond.instanceMethod ({ cls := "BlindMintModel", name := "choiceOf", desc := "(I)J" } : MethodName)) ∈ bm_big := bm_inT (bm_t4 (List.mem_of_getElem? (i := 66) rfl)) rfl
theorem bw_787 : (Cond.code ({ cls := "BlindMintModel", name := "choiceOf", desc := "(I)J" } : MethodName) prog_12_method_28_code 2 (Option.some FieldType.long)) ∈ bm_big := bm_inT (bm_t4 (List.mem_of_getElem? (i := 67) rfl)) rfl
theorem bw_788 : (Cond.methodLink "BlindMintModel" 184 ({ cls := "BlindMintModel", name := "isSignature", desc := "(JJI)Z" } : MethodName)) ∈ bm_big := bm_inT (bm_t4 (List.mem_of_getElem? (i := 68) rfl)) rfl
theorem bw_789 : (Cond.static ({ cls := "BlindMintModel", name := "isSignature", desc := "(JJI)Z" } : MethodName)) ∈ bm_big := bm_inT (bm_t4 (List.mem_of_getElem? (i := 69) rfl)) rfl
theorem bw_790 : (Cond.code ({ cls := "BlindMintModel", name := "isSignature", desc := "(JJI)Z" } : MethodName) prog_12_method_16_code 9 (Option.some FieldType.boolean)) ∈ bm_big := bm_inT (bm_t4 (List.mem_of_getElem? (i := 70) rfl)) rfl
theorem bw_791 : (Cond.methodLink "BlindMintLaw" 86 ({ cls := "BlindMintModel", name := "deposit", desc := "(II)I" } : MethodName)) ∈ bm_big := bm_inT (bm_t4 (List.mem_of_getElem? (i := 71) rfl)) rfl
theorem bw_792 : (Cond.instanceMethod ({ cls := "BlindMintModel", name := "deposit", desc := "(II)I" } : MethodName)) ∈ bm_big := bm_inT (bm_t4 (List.mem_of_getElem? (i := 72) rfl)) rfl
theorem bw_793 : (Cond.selects "BlindMintModel" ({ cls := "BlindMintModel", name := "deposit", desc := "(II)I" } : MethodName) ({ cls := "BlindMintModel", name := "deposit", desc := "(II)I" } : MethodName)) ∈ bm_big := bm_inT (bm_t4 (List.mem_of_getElem? (i := 73) rfl)) rfl
theorem bw_794 : (Cond.code ({ cls := "BlindMintModel", name := "deposit", desc := "(II)I" } : MethodName) prog_12_method_33_code 6 (Option.some FieldType.int)) ∈ bm_big := bm_inT (bm_t4 (List.mem_of_getElem? (i := 74) rfl)) rfl
theorem bw_795 : (Cond.methodLink "BlindMintModel" 199 ({ cls := "BlindMintModel", name := "noted", desc := "(J)I" } : MethodName)) ∈ bm_big := bm_inT (bm_t4 (List.mem_of_getElem? (i := 75) rfl)) rfl
theorem bw_797 : (Cond.instanceMethod ({ cls := "BlindMintModel", name := "noted", desc := "(J)I" } : MethodName)) ∈ bm_big := bm_inT (bm_t4 (List.mem_of_getElem? (i := 77) rfl)) rfl
theorem bw_798 : (Cond.code ({ cls := "BlindMintModel", name := "noted", desc := "(J)I" } : MethodName) prog_12_method_31_code 6 (Option.some FieldType.int)) ∈ bm_big := bm_inT (bm_t4 (List.mem_of_getElem? (i := 78) rfl)) rfl
theorem bw_799 : (Cond.methodLink "BlindMintModel" 203 ({ cls := "BlindMintModel", name := "trace", desc := "(II)V" } : MethodName)) ∈ bm_big := bm_inT (bm_t4 (List.mem_of_getElem? (i := 79) rfl)) rfl
theorem bw_801 : (Cond.instanceMethod ({ cls := "BlindMintModel", name := "trace", desc := "(II)V" } : MethodName)) ∈ bm_big := bm_inT (bm_t4 (List.mem_of_getElem? (i := 81) rfl)) rfl
theorem bw_802 : (Cond.code ({ cls := "BlindMintModel", name := "trace", desc := "(II)V" } : MethodName) prog_12_method_32_code 8 (Option.none : Option Jvm.ClassFile.FieldType)) ∈ bm_big := bm_inT (bm_t4 (List.mem_of_getElem? (i := 82) rfl)) rfl
theorem bw_803 : (Cond.constantLong "BlindMintModel" 195 (15)) ∈ bm_big := bm_inT (bm_t4 (List.mem_of_getElem? (i := 83) rfl)) rfl
theorem bw_804 : (Cond.constantLong "BlindMintModel" 197 (1003)) ∈ bm_big := bm_inT (bm_t4 (List.mem_of_getElem? (i := 84) rfl)) rfl
theorem bw_805 : (Cond.methodLink "BlindMintLaw" 90 ({ cls := "BlindMintModel", name := "traced", desc := "()I" } : MethodName)) ∈ bm_big := bm_inT (bm_t4 (List.mem_of_getElem? (i := 85) rfl)) rfl
theorem bw_806 : (Cond.instanceMethod ({ cls := "BlindMintModel", name := "traced", desc := "()I" } : MethodName)) ∈ bm_big := bm_inT (bm_t4 (List.mem_of_getElem? (i := 86) rfl)) rfl
theorem bw_807 : (Cond.selects "BlindMintModel" ({ cls := "BlindMintModel", name := "traced", desc := "()I" } : MethodName) ({ cls := "BlindMintModel", name := "traced", desc := "()I" } : MethodName)) ∈ bm_big := bm_inT (bm_t4 (List.mem_of_getElem? (i := 87) rfl)) rfl
theorem bw_808 : (Cond.code ({ cls := "BlindMintModel", name := "traced", desc := "()I" } : MethodName) prog_12_method_34_code 1 (Option.some FieldType.int)) ∈ bm_big := bm_inT (bm_t4 (List.mem_of_getElem? (i := 88) rfl)) rfl
theorem bw_809 : (Cond.methodLink "BlindMintLaw" 94 ({ cls := "BlindMintModel", name := "balance", desc := "(I)I" } : MethodName)) ∈ bm_big := bm_inT (bm_t4 (List.mem_of_getElem? (i := 89) rfl)) rfl
theorem bw_810 : (Cond.instanceMethod ({ cls := "BlindMintModel", name := "balance", desc := "(I)I" } : MethodName)) ∈ bm_big := bm_inT (bm_t4 (List.mem_of_getElem? (i := 90) rfl)) rfl
theorem bw_811 : (Cond.selects "BlindMintModel" ({ cls := "BlindMintModel", name := "balance", desc := "(I)I" } : MethodName) ({ cls := "BlindMintModel", name := "balance", desc := "(I)I" } : MethodName)) ∈ bm_big := bm_inT (bm_t4 (List.mem_of_getElem? (i := 91) rfl)) rfl
theorem bw_812 : (Cond.code ({ cls := "BlindMintModel", name := "balance", desc := "(I)I" } : MethodName) prog_12_method_35_code 2 (Option.some FieldType.int)) ∈ bm_big := bm_inT (bm_t4 (List.mem_of_getElem? (i := 92) rfl)) rfl
theorem bw_813 : (Cond.methodLink "BlindMintLaw" 98 ({ cls := "BlindMintModel", name := "coins", desc := "(I)I" } : MethodName)) ∈ bm_big := bm_inT (bm_t4 (List.mem_of_getElem? (i := 93) rfl)) rfl
theorem bw_814 : (Cond.instanceMethod ({ cls := "BlindMintModel", name := "coins", desc := "(I)I" } : MethodName)) ∈ bm_big := bm_inT (bm_t4 (List.mem_of_getElem? (i := 94) rfl)) rfl
theorem bw_815 : (Cond.selects "BlindMintModel" ({ cls := "BlindMintModel", name := "coins", desc := "(I)I" } : MethodName) ({ cls := "BlindMintModel", name := "coins", desc := "(I)I" } : MethodName)) ∈ bm_big := bm_inT (bm_t4 (List.mem_of_getElem? (i := 95) rfl)) rfl
theorem bw_816 : (Cond.code ({ cls := "BlindMintModel", name := "coins", desc := "(I)I" } : MethodName) prog_12_method_36_code 2 (Option.some FieldType.int)) ∈ bm_big := bm_inT (bm_t4 (List.mem_of_getElem? (i := 96) rfl)) rfl
theorem bw_817 : (Cond.methodLink "BlindMintLaw" 101 ({ cls := "BlindMintModel", name := "coin", desc := "(II)J" } : MethodName)) ∈ bm_big := bm_inT (bm_t4 (List.mem_of_getElem? (i := 97) rfl)) rfl
theorem bw_818 : (Cond.instanceMethod ({ cls := "BlindMintModel", name := "coin", desc := "(II)J" } : MethodName)) ∈ bm_big := bm_inT (bm_t4 (List.mem_of_getElem? (i := 98) rfl)) rfl
theorem bw_819 : (Cond.selects "BlindMintModel" ({ cls := "BlindMintModel", name := "coin", desc := "(II)J" } : MethodName) ({ cls := "BlindMintModel", name := "coin", desc := "(II)J" } : MethodName)) ∈ bm_big := bm_inT (bm_t4 (List.mem_of_getElem? (i := 99) rfl)) rfl
theorem bw_820 : (Cond.code ({ cls := "BlindMintModel", name := "coin", desc := "(II)J" } : MethodName) prog_12_method_37_code 3 (Option.some FieldType.long)) ∈ bm_big := bm_inT (bm_t4 (List.mem_of_getElem? (i := 100) rfl)) rfl
theorem bw_821 : (Cond.methodLink "BlindMintLaw" 104 ({ cls := "BlindMintModel", name := "signature", desc := "(II)J" } : MethodName)) ∈ bm_big := bm_inT (bm_t4 (List.mem_of_getElem? (i := 101) rfl)) rfl
theorem bw_822 : (Cond.instanceMethod ({ cls := "BlindMintModel", name := "signature", desc := "(II)J" } : MethodName)) ∈ bm_big := bm_inT (bm_t4 (List.mem_of_getElem? (i := 102) rfl)) rfl
theorem bw_823 : (Cond.selects "BlindMintModel" ({ cls := "BlindMintModel", name := "signature", desc := "(II)J" } : MethodName) ({ cls := "BlindMintModel", name := "signature", desc := "(II)J" } : MethodName)) ∈ bm_big := bm_inT (bm_t4 (List.mem_of_getElem? (i := 103) rfl)) rfl
theorem bw_824 : (Cond.code ({ cls := "BlindMintModel", name := "signature", desc := "(II)J" } : MethodName) prog_12_method_38_code 3 (Option.some FieldType.long)) ∈ bm_big := bm_inT (bm_t4 (List.mem_of_getElem? (i := 104) rfl)) rfl
theorem bw_825 : (Cond.methodLink "BlindMintLaw" 109 ({ cls := "BlindMintModel", name := "blinded", desc := "()J" } : MethodName)) ∈ bm_big := bm_inT (bm_t4 (List.mem_of_getElem? (i := 105) rfl)) rfl
theorem bw_826 : (Cond.instanceMethod ({ cls := "BlindMintModel", name := "blinded", desc := "()J" } : MethodName)) ∈ bm_big := bm_inT (bm_t4 (List.mem_of_getElem? (i := 106) rfl)) rfl
theorem bw_827 : (Cond.selects "BlindMintModel" ({ cls := "BlindMintModel", name := "blinded", desc := "()J" } : MethodName) ({ cls := "BlindMintModel", name := "blinded", desc := "()J" } : MethodName)) ∈ bm_big := bm_inT (bm_t4 (List.mem_of_getElem? (i := 107) rfl)) rfl
theorem bw_828 : (Cond.code ({ cls := "BlindMintModel", name := "blinded", desc := "()J" } : MethodName) prog_12_method_39_code 1 (Option.some FieldType.long)) ∈ bm_big := bm_inT (bm_t4 (List.mem_of_getElem? (i := 108) rfl)) rfl
theorem bw_829 : (Cond.methodLink "BlindMintLaw" 113 ({ cls := "BlindMintModel", name := "count", desc := "(I)I" } : MethodName)) ∈ bm_big := bm_inT (bm_t4 (List.mem_of_getElem? (i := 109) rfl)) rfl
theorem bw_830 : (Cond.instanceMethod ({ cls := "BlindMintModel", name := "count", desc := "(I)I" } : MethodName)) ∈ bm_big := bm_inT (bm_t4 (List.mem_of_getElem? (i := 110) rfl)) rfl
theorem bw_831 : (Cond.selects "BlindMintModel" ({ cls := "BlindMintModel", name := "count", desc := "(I)I" } : MethodName) ({ cls := "BlindMintModel", name := "count", desc := "(I)I" } : MethodName)) ∈ bm_big := bm_inT (bm_t4 (List.mem_of_getElem? (i := 111) rfl)) rfl
theorem bw_832 : (Cond.code ({ cls := "BlindMintModel", name := "count", desc := "(I)I" } : MethodName) prog_12_method_40_code 2 (Option.some FieldType.int)) ∈ bm_big := bm_inT (bm_t4 (List.mem_of_getElem? (i := 112) rfl)) rfl
theorem bw_833 : (Cond.constantLong "BlindMintLaw" 52 (4294967295)) ∈ bm_big := bm_inT (bm_t4 (List.mem_of_getElem? (i := 113) rfl)) rfl
theorem bw_834 : (Cond.sameMethod "java/lang/Throwable" "java/lang/Throwable" "fillInStackTrace" "(I)Ljava/lang/Throwable;") ∈ bm_big := bm_inT (bm_t4 (List.mem_of_getElem? (i := 114) rfl)) rfl
theorem bw_835 : (Cond.fieldLink "BlindMint" 77 "BlindMint$Denomination" "worth" "I") ∈ bm_big := bm_inT (bm_t4 (List.mem_of_getElem? (i := 115) rfl)) rfl
theorem bw_836 : (Cond.fieldLink "BlindMint$Denomination" 36 "BlindMint$Denomination" "p" "J") ∈ bm_big := bm_inT (bm_t4 (List.mem_of_getElem? (i := 116) rfl)) rfl
theorem bw_837 : (Cond.fieldLink "BlindMint$Denomination" 40 "BlindMint$Denomination" "q" "J") ∈ bm_big := bm_inT (bm_t4 (List.mem_of_getElem? (i := 117) rfl)) rfl
theorem bs_0 : (Cond.selects "BlindMint" ({ cls := "BlindMint", name := "findPayment", desc := "(I)LBlindMint$Payment;" } : MethodName) ({ cls := "BlindMint", name := "findPayment", desc := "(I)LBlindMint$Payment;" } : MethodName)) ∈ bm_big := bm_inS (List.mem_of_getElem? (i := 0) rfl) rfl
theorem bs_1 : (Cond.selects "BlindMint" ({ cls := "BlindMint", name := "isGood", desc := "(LBlindMint$Payment;)Z" } : MethodName) ({ cls := "BlindMint", name := "isGood", desc := "(LBlindMint$Payment;)Z" } : MethodName)) ∈ bm_big := bm_inS (List.mem_of_getElem? (i := 1) rfl) rfl
theorem bs_2 : (Cond.selects "java/lang/Throwable" ({ cls := "java/lang/Throwable", name := "fillInStackTrace", desc := "(I)Ljava/lang/Throwable;" } : MethodName) ({ cls := "java/lang/Throwable", name := "fillInStackTrace", desc := "(I)Ljava/lang/Throwable;" } : MethodName)) ∈ bm_big := bm_inS (List.mem_of_getElem? (i := 2) rfl) rfl
theorem bs_3 : (Cond.selects "BlindMint$Proposal" ({ cls := "BlindMint$Proposal", name := "open", desc := "()V" } : MethodName) ({ cls := "BlindMint$Proposal", name := "open", desc := "()V" } : MethodName)) ∈ bm_big := bm_inS (List.mem_of_getElem? (i := 3) rfl) rfl
theorem bs_4 : (Cond.selects "BlindMint$Proposal" ({ cls := "BlindMint$Proposal", name := "sortParts", desc := "()V" } : MethodName) ({ cls := "BlindMint$Proposal", name := "sortParts", desc := "()V" } : MethodName)) ∈ bm_big := bm_inS (List.mem_of_getElem? (i := 4) rfl) rfl
theorem bs_5 : (Cond.selects "BlindMint$Proposal" ({ cls := "BlindMint$Proposal", name := "insertPart", desc := "(LBlindMint$Candidate;I)V" } : MethodName) ({ cls := "BlindMint$Proposal", name := "insertPart", desc := "(LBlindMint$Candidate;I)V" } : MethodName)) ∈ bm_big := bm_inS (List.mem_of_getElem? (i := 5) rfl) rfl
theorem bs_6 : (Cond.selects "BlindMint" ({ cls := "BlindMint", name := "makeCoin", desc := "(IJ)LBlindMint$Coin;" } : MethodName) ({ cls := "BlindMint", name := "makeCoin", desc := "(IJ)LBlindMint$Coin;" } : MethodName)) ∈ bm_big := bm_inS (List.mem_of_getElem? (i := 6) rfl) rfl
theorem bs_7 : (Cond.selects "BlindMint$Denomination" ({ cls := "BlindMint$Denomination", name := "join", desc := "(JJ)J" } : MethodName) ({ cls := "BlindMint$Denomination", name := "join", desc := "(JJ)J" } : MethodName)) ∈ bm_big := bm_inS (List.mem_of_getElem? (i := 7) rfl) rfl
theorem bs_8 : (Cond.selects "BlindMint" ({ cls := "BlindMint", name := "findCoin", desc := "(II)LBlindMint$Coin;" } : MethodName) ({ cls := "BlindMint", name := "findCoin", desc := "(II)LBlindMint$Coin;" } : MethodName)) ∈ bm_big := bm_inS (List.mem_of_getElem? (i := 8) rfl) rfl
theorem bs_9 : (Cond.selects "BlindMint" ({ cls := "BlindMint", name := "findCredit", desc := "(J)LBlindMint$Credit;" } : MethodName) ({ cls := "BlindMint", name := "findCredit", desc := "(J)LBlindMint$Credit;" } : MethodName)) ∈ bm_big := bm_inS (List.mem_of_getElem? (i := 9) rfl) rfl
theorem bs_10 : (Cond.selects "BlindMintModel" ({ cls := "BlindMintModel", name := "fail", desc := "(I)I" } : MethodName) ({ cls := "BlindMintModel", name := "fail", desc := "(I)I" } : MethodName)) ∈ bm_big := bm_inS (List.mem_of_getElem? (i := 10) rfl) rfl
theorem bs_11 : (Cond.selects "BlindMintModel" ({ cls := "BlindMintModel", name := "candidates", desc := "(IJI)V" } : MethodName) ({ cls := "BlindMintModel", name := "candidates", desc := "(IJI)V" } : MethodName)) ∈ bm_big := bm_inS (List.mem_of_getElem? (i := 11) rfl) rfl
theorem bs_12 : (Cond.selects "BlindMintModel" ({ cls := "BlindMintModel", name := "open", desc := "(I)I" } : MethodName) ({ cls := "BlindMintModel", name := "open", desc := "(I)I" } : MethodName)) ∈ bm_big := bm_inS (List.mem_of_getElem? (i := 12) rfl) rfl
theorem bs_13 : (Cond.selects "BlindMintModel" ({ cls := "BlindMintModel", name := "least", desc := "()I" } : MethodName) ({ cls := "BlindMintModel", name := "least", desc := "()I" } : MethodName)) ∈ bm_big := bm_inS (List.mem_of_getElem? (i := 13) rfl) rfl
theorem bs_14 : (Cond.selects "BlindMintModel" ({ cls := "BlindMintModel", name := "numberOf", desc := "(J)J" } : MethodName) ({ cls := "BlindMintModel", name := "numberOf", desc := "(J)J" } : MethodName)) ∈ bm_big := bm_inS (List.mem_of_getElem? (i := 14) rfl) rfl
theorem bs_15 : (Cond.selects "BlindMintModel" ({ cls := "BlindMintModel", name := "noCoin", desc := "(II)Z" } : MethodName) ({ cls := "BlindMintModel", name := "noCoin", desc := "(II)Z" } : MethodName)) ∈ bm_big := bm_inS (List.mem_of_getElem? (i := 15) rfl) rfl
theorem bs_16 : (Cond.selects "BlindMintModel" ({ cls := "BlindMintModel", name := "noNumber", desc := "(II)Z" } : MethodName) ({ cls := "BlindMintModel", name := "noNumber", desc := "(II)Z" } : MethodName)) ∈ bm_big := bm_inS (List.mem_of_getElem? (i := 16) rfl) rfl
theorem bs_17 : (Cond.selects "BlindMintModel" ({ cls := "BlindMintModel", name := "isGood", desc := "(I)Z" } : MethodName) ({ cls := "BlindMintModel", name := "isGood", desc := "(I)Z" } : MethodName)) ∈ bm_big := bm_inS (List.mem_of_getElem? (i := 17) rfl) rfl
theorem bs_18 : (Cond.selects "BlindMintModel" ({ cls := "BlindMintModel", name := "choiceOf", desc := "(I)J" } : MethodName) ({ cls := "BlindMintModel", name := "choiceOf", desc := "(I)J" } : MethodName)) ∈ bm_big := bm_inS (List.mem_of_getElem? (i := 18) rfl) rfl
theorem bs_19 : (Cond.selects "BlindMintModel" ({ cls := "BlindMintModel", name := "noted", desc := "(J)I" } : MethodName) ({ cls := "BlindMintModel", name := "noted", desc := "(J)I" } : MethodName)) ∈ bm_big := bm_inS (List.mem_of_getElem? (i := 19) rfl) rfl
theorem bs_20 : (Cond.selects "BlindMintModel" ({ cls := "BlindMintModel", name := "trace", desc := "(II)V" } : MethodName) ({ cls := "BlindMintModel", name := "trace", desc := "(II)V" } : MethodName)) ∈ bm_big := bm_inS (List.mem_of_getElem? (i := 20) rfl) rfl
end
section
/-! the classes' fields -/
def bt_A : u_T := fun k => match k with
  | 0 => ("BlindMint$Account", "balance", "I", false)
  | 1 => ("BlindMint$Account", "wallet", "[LBlindMint$Coin;", true)
  | _ => ("BlindMint$Account", "coinCount", "I", false)
def by_A : Nat → FieldType := fun k => match k with
  | 0 => .int
  | 1 => .array (.object "BlindMint$Coin")
  | _ => .int
theorem bn_A : ∀ a, a < 3 → ∀ b, b < 3 → a ≠ b → (bt_A a).2.1 ≠ (bt_A b).2.1 := by decide +kernel
theorem bo_A : ∀ k, k < 3 → parseFieldDescriptor (bt_A k).2.2.1 = some (by_A k) := by decide +kernel
theorem bu_A : ∀ w ∈ u_ws "BlindMint$Account" bt_A 3, w ∈ bm_big := by
  show ∀ w ∈ [(Cond.lays "BlindMint$Account" "BlindMint$Account" "balance" "I"), (Cond.laysFinal "BlindMint$Account" "BlindMint$Account" "wallet" "[LBlindMint$Coin;"), (Cond.lays "BlindMint$Account" "BlindMint$Account" "coinCount" "I")], w ∈ bm_big
  exact List.forall_mem_cons.mpr ⟨bw_101, List.forall_mem_cons.mpr ⟨bw_103, List.forall_mem_cons.mpr ⟨bw_105, fun _ h => absurd h List.not_mem_nil⟩⟩⟩
def bt_C : u_T := fun k => match k with
  | 0 => ("BlindMint$Candidate", "a", "J", false)
  | 1 => ("BlindMint$Candidate", "c", "J", false)
  | 2 => ("BlindMint$Candidate", "e", "J", false)
  | 3 => ("BlindMint$Candidate", "b", "J", false)
  | 4 => ("BlindMint$Candidate", "x", "J", false)
  | 5 => ("BlindMint$Candidate", "y", "J", false)
  | _ => ("BlindMint$Candidate", "pairHash", "J", false)
def by_C : Nat → FieldType := fun k => match k with
  | 0 => .long
  | 1 => .long
  | 2 => .long
  | 3 => .long
  | 4 => .long
  | 5 => .long
  | _ => .long
theorem bn_C : ∀ a, a < 7 → ∀ b, b < 7 → a ≠ b → (bt_C a).2.1 ≠ (bt_C b).2.1 := by decide +kernel
theorem bo_C : ∀ k, k < 7 → parseFieldDescriptor (bt_C k).2.2.1 = some (by_C k) := by decide +kernel
theorem bu_C : ∀ w ∈ u_ws "BlindMint$Candidate" bt_C 7, w ∈ bm_big := by
  show ∀ w ∈ [(Cond.lays "BlindMint$Candidate" "BlindMint$Candidate" "a" "J"), (Cond.lays "BlindMint$Candidate" "BlindMint$Candidate" "c" "J"), (Cond.lays "BlindMint$Candidate" "BlindMint$Candidate" "e" "J"), (Cond.lays "BlindMint$Candidate" "BlindMint$Candidate" "b" "J"), (Cond.lays "BlindMint$Candidate" "BlindMint$Candidate" "x" "J"), (Cond.lays "BlindMint$Candidate" "BlindMint$Candidate" "y" "J"), (Cond.lays "BlindMint$Candidate" "BlindMint$Candidate" "pairHash" "J")], w ∈ bm_big
  exact List.forall_mem_cons.mpr ⟨bw_56, List.forall_mem_cons.mpr ⟨bw_58, List.forall_mem_cons.mpr ⟨bw_60, List.forall_mem_cons.mpr ⟨bw_62, List.forall_mem_cons.mpr ⟨bw_64, List.forall_mem_cons.mpr ⟨bw_66, List.forall_mem_cons.mpr ⟨bw_68, fun _ h => absurd h List.not_mem_nil⟩⟩⟩⟩⟩⟩⟩
def bt_O : u_T := fun k => match k with
  | 0 => ("BlindMint$Coin", "denomination", "I", true)
  | 1 => ("BlindMint$Coin", "number", "J", true)
  | 2 => ("BlindMint$Coin", "signature", "J", true)
  | 3 => ("BlindMint$Coin", "spent", "Z", false)
  | 4 => ("BlindMint$Coin", "toldForOne", "[J", true)
  | _ => ("BlindMint$Coin", "toldForZero", "[J", true)
def by_O : Nat → FieldType := fun k => match k with
  | 0 => .int
  | 1 => .long
  | 2 => .long
  | 3 => .boolean
  | 4 => .array (.long)
  | _ => .array (.long)
theorem bn_O : ∀ a, a < 6 → ∀ b, b < 6 → a ≠ b → (bt_O a).2.1 ≠ (bt_O b).2.1 := by decide +kernel
theorem bo_O : ∀ k, k < 6 → parseFieldDescriptor (bt_O k).2.2.1 = some (by_O k) := by decide +kernel
theorem bu_O : ∀ w ∈ u_ws "BlindMint$Coin" bt_O 6, w ∈ bm_big := by
  show ∀ w ∈ [(Cond.laysFinal "BlindMint$Coin" "BlindMint$Coin" "denomination" "I"), (Cond.laysFinal "BlindMint$Coin" "BlindMint$Coin" "number" "J"), (Cond.laysFinal "BlindMint$Coin" "BlindMint$Coin" "signature" "J"), (Cond.lays "BlindMint$Coin" "BlindMint$Coin" "spent" "Z"), (Cond.laysFinal "BlindMint$Coin" "BlindMint$Coin" "toldForOne" "[J"), (Cond.laysFinal "BlindMint$Coin" "BlindMint$Coin" "toldForZero" "[J")], w ∈ bm_big
  exact List.forall_mem_cons.mpr ⟨bw_427, List.forall_mem_cons.mpr ⟨bw_429, List.forall_mem_cons.mpr ⟨bw_431, List.forall_mem_cons.mpr ⟨bw_433, List.forall_mem_cons.mpr ⟨bw_435, List.forall_mem_cons.mpr ⟨bw_437, fun _ h => absurd h List.not_mem_nil⟩⟩⟩⟩⟩⟩
def bt_R : u_T := fun k => match k with
  | 0 => ("BlindMint$Credit", "denomination", "J", true)
  | 1 => ("BlindMint$Credit", "pairHashes", "[J", true)
  | 2 => ("BlindMint$Credit", "challenge", "J", true)
  | 3 => ("BlindMint$Credit", "halves", "[J", true)
  | _ => ("BlindMint$Credit", "before", "LBlindMint$Credit;", true)
def by_R : Nat → FieldType := fun k => match k with
  | 0 => .long
  | 1 => .array (.long)
  | 2 => .long
  | 3 => .array (.long)
  | _ => .object "BlindMint$Credit"
theorem bn_R : ∀ a, a < 5 → ∀ b, b < 5 → a ≠ b → (bt_R a).2.1 ≠ (bt_R b).2.1 := by decide +kernel
theorem bo_R : ∀ k, k < 5 → parseFieldDescriptor (bt_R k).2.2.1 = some (by_R k) := by decide +kernel
theorem bu_R : ∀ w ∈ u_ws "BlindMint$Credit" bt_R 5, w ∈ bm_big := by
  show ∀ w ∈ [(Cond.laysFinal "BlindMint$Credit" "BlindMint$Credit" "denomination" "J"), (Cond.laysFinal "BlindMint$Credit" "BlindMint$Credit" "pairHashes" "[J"), (Cond.laysFinal "BlindMint$Credit" "BlindMint$Credit" "challenge" "J"), (Cond.laysFinal "BlindMint$Credit" "BlindMint$Credit" "halves" "[J"), (Cond.laysFinal "BlindMint$Credit" "BlindMint$Credit" "before" "LBlindMint$Credit;")], w ∈ bm_big
  exact List.forall_mem_cons.mpr ⟨bw_563, List.forall_mem_cons.mpr ⟨bw_565, List.forall_mem_cons.mpr ⟨bw_567, List.forall_mem_cons.mpr ⟨bw_569, List.forall_mem_cons.mpr ⟨bw_571, fun _ h => absurd h List.not_mem_nil⟩⟩⟩⟩⟩
def bt_P : u_T := fun k => match k with
  | _ => ("BlindMint$Payment", "numbers", "[J", true)
def by_P : Nat → FieldType := fun k => match k with
  | _ => .array (.long)
theorem bn_P : ∀ a, a < 1 → ∀ b, b < 1 → a ≠ b → (bt_P a).2.1 ≠ (bt_P b).2.1 := by decide +kernel
theorem bo_P : ∀ k, k < 1 → parseFieldDescriptor (bt_P k).2.2.1 = some (by_P k) := by decide +kernel
theorem bu_P : ∀ w ∈ u_ws "BlindMint$Payment" bt_P 1, w ∈ bm_big := by
  show ∀ w ∈ [(Cond.laysFinal "BlindMint$Payment" "BlindMint$Payment" "numbers" "[J")], w ∈ bm_big
  exact List.forall_mem_cons.mpr ⟨bw_492, fun _ h => absurd h List.not_mem_nil⟩
def bt_Q : u_T := fun k => match k with
  | 0 => ("BlindMint$Proposal", "candidates", "[LBlindMint$Candidate;", true)
  | 1 => ("BlindMint$Proposal", "parts", "[LBlindMint$Candidate;", true)
  | 2 => ("BlindMint$Proposal", "firstOpened", "I", false)
  | _ => ("BlindMint$Proposal", "secondOpened", "I", false)
def by_Q : Nat → FieldType := fun k => match k with
  | 0 => .array (.object "BlindMint$Candidate")
  | 1 => .array (.object "BlindMint$Candidate")
  | 2 => .int
  | _ => .int
theorem bn_Q : ∀ a, a < 4 → ∀ b, b < 4 → a ≠ b → (bt_Q a).2.1 ≠ (bt_Q b).2.1 := by decide +kernel
theorem bo_Q : ∀ k, k < 4 → parseFieldDescriptor (bt_Q k).2.2.1 = some (by_Q k) := by decide +kernel
theorem bu_Q : ∀ w ∈ u_ws "BlindMint$Proposal" bt_Q 4, w ∈ bm_big := by
  show ∀ w ∈ [(Cond.laysFinal "BlindMint$Proposal" "BlindMint$Proposal" "candidates" "[LBlindMint$Candidate;"), (Cond.laysFinal "BlindMint$Proposal" "BlindMint$Proposal" "parts" "[LBlindMint$Candidate;"), (Cond.lays "BlindMint$Proposal" "BlindMint$Proposal" "firstOpened" "I"), (Cond.lays "BlindMint$Proposal" "BlindMint$Proposal" "secondOpened" "I")], w ∈ bm_big
  exact List.forall_mem_cons.mpr ⟨bw_76, List.forall_mem_cons.mpr ⟨bw_78, List.forall_mem_cons.mpr ⟨bw_80, List.forall_mem_cons.mpr ⟨bw_82, fun _ h => absurd h List.not_mem_nil⟩⟩⟩⟩
def bt_B : u_T := fun k => match k with
  | 0 => ("BlindMint", "accounts", "[LBlindMint$Account;", true)
  | 1 => ("BlindMint", "proposal", "LBlindMint$Proposal;", true)
  | 2 => ("BlindMint", "payments", "[LBlindMint$Payment;", true)
  | 3 => ("BlindMint", "paymentCount", "I", false)
  | 4 => ("BlindMint", "pairHashes", "[J", true)
  | 5 => ("BlindMint", "lastCredit", "LBlindMint$Credit;", false)
  | 6 => ("BlindMint", "lastTraced", "I", false)
  | 7 => ("BlindMint", "lastBlinded", "J", false)
  | 8 => ("BlindMint", "withdrawnCoins", "I", false)
  | 9 => ("BlindMint", "depositedCoins", "I", false)
  | 10 => ("BlindMint", "foundCheats", "I", false)
  | _ => ("BlindMint", "repeatedDeposits", "I", false)
def by_B : Nat → FieldType := fun k => match k with
  | 0 => .array (.object "BlindMint$Account")
  | 1 => .object "BlindMint$Proposal"
  | 2 => .array (.object "BlindMint$Payment")
  | 3 => .int
  | 4 => .array (.long)
  | 5 => .object "BlindMint$Credit"
  | 6 => .int
  | 7 => .long
  | 8 => .int
  | 9 => .int
  | 10 => .int
  | _ => .int
theorem bn_B : ∀ a, a < 12 → ∀ b, b < 12 → a ≠ b → (bt_B a).2.1 ≠ (bt_B b).2.1 := by decide +kernel
theorem bo_B : ∀ k, k < 12 → parseFieldDescriptor (bt_B k).2.2.1 = some (by_B k) := by decide +kernel
theorem bu_B : ∀ w ∈ u_ws "BlindMint" bt_B 12, w ∈ bm_big := by
  show ∀ w ∈ [(Cond.laysFinal "BlindMint" "BlindMint" "accounts" "[LBlindMint$Account;"), (Cond.laysFinal "BlindMint" "BlindMint" "proposal" "LBlindMint$Proposal;"), (Cond.laysFinal "BlindMint" "BlindMint" "payments" "[LBlindMint$Payment;"), (Cond.lays "BlindMint" "BlindMint" "paymentCount" "I"), (Cond.laysFinal "BlindMint" "BlindMint" "pairHashes" "[J"), (Cond.lays "BlindMint" "BlindMint" "lastCredit" "LBlindMint$Credit;"), (Cond.lays "BlindMint" "BlindMint" "lastTraced" "I"), (Cond.lays "BlindMint" "BlindMint" "lastBlinded" "J"), (Cond.lays "BlindMint" "BlindMint" "withdrawnCoins" "I"), (Cond.lays "BlindMint" "BlindMint" "depositedCoins" "I"), (Cond.lays "BlindMint" "BlindMint" "foundCheats" "I"), (Cond.lays "BlindMint" "BlindMint" "repeatedDeposits" "I")], w ∈ bm_big
  exact List.forall_mem_cons.mpr ⟨bw_121, List.forall_mem_cons.mpr ⟨bw_123, List.forall_mem_cons.mpr ⟨bw_125, List.forall_mem_cons.mpr ⟨bw_127, List.forall_mem_cons.mpr ⟨bw_129, List.forall_mem_cons.mpr ⟨bw_131, List.forall_mem_cons.mpr ⟨bw_133, List.forall_mem_cons.mpr ⟨bw_135, List.forall_mem_cons.mpr ⟨bw_137, List.forall_mem_cons.mpr ⟨bw_139, List.forall_mem_cons.mpr ⟨bw_141, List.forall_mem_cons.mpr ⟨bw_143, fun _ h => absurd h List.not_mem_nil⟩⟩⟩⟩⟩⟩⟩⟩⟩⟩⟩⟩
def bt_M : u_T := fun k => match k with
  | 0 => ("BlindMintModel", "thrown", "I", false)
  | 1 => ("BlindMintModel", "money", "[I", true)
  | 2 => ("BlindMintModel", "counts", "[I", true)
  | 3 => ("BlindMintModel", "traced", "I", false)
  | 4 => ("BlindMintModel", "blinded", "J", false)
  | 5 => ("BlindMintModel", "coins", "[I", true)
  | 6 => ("BlindMintModel", "sort", "[I", true)
  | 7 => ("BlindMintModel", "numbers", "[J", true)
  | 8 => ("BlindMintModel", "signs", "[J", true)
  | 9 => ("BlindMintModel", "spent", "[Z", true)
  | 10 => ("BlindMintModel", "parts", "[J", true)
  | 11 => ("BlindMintModel", "payments", "I", false)
  | 12 => ("BlindMintModel", "rows", "[J", true)
  | 13 => ("BlindMintModel", "deposits", "I", false)
  | 14 => ("BlindMintModel", "taken", "[J", true)
  | 15 => ("BlindMintModel", "a", "[J", true)
  | 16 => ("BlindMintModel", "b", "[J", true)
  | 17 => ("BlindMintModel", "c", "[J", true)
  | 18 => ("BlindMintModel", "e", "[J", true)
  | 19 => ("BlindMintModel", "pair", "[J", true)
  | 20 => ("BlindMintModel", "left", "[Z", true)
  | _ => ("BlindMintModel", "hashes", "[J", true)
def by_M : Nat → FieldType := fun k => match k with
  | 0 => .int
  | 1 => .array (.int)
  | 2 => .array (.int)
  | 3 => .int
  | 4 => .long
  | 5 => .array (.int)
  | 6 => .array (.int)
  | 7 => .array (.long)
  | 8 => .array (.long)
  | 9 => .array (.boolean)
  | 10 => .array (.long)
  | 11 => .int
  | 12 => .array (.long)
  | 13 => .int
  | 14 => .array (.long)
  | 15 => .array (.long)
  | 16 => .array (.long)
  | 17 => .array (.long)
  | 18 => .array (.long)
  | 19 => .array (.long)
  | 20 => .array (.boolean)
  | _ => .array (.long)
theorem bn_M : ∀ a, a < 22 → ∀ b, b < 22 → a ≠ b → (bt_M a).2.1 ≠ (bt_M b).2.1 := by decide +kernel
theorem bo_M : ∀ k, k < 22 → parseFieldDescriptor (bt_M k).2.2.1 = some (by_M k) := by decide +kernel
theorem bu_M : ∀ w ∈ u_ws "BlindMintModel" bt_M 22, w ∈ bm_big := by
  show ∀ w ∈ [(Cond.lays "BlindMintModel" "BlindMintModel" "thrown" "I"), (Cond.laysFinal "BlindMintModel" "BlindMintModel" "money" "[I"), (Cond.laysFinal "BlindMintModel" "BlindMintModel" "counts" "[I"), (Cond.lays "BlindMintModel" "BlindMintModel" "traced" "I"), (Cond.lays "BlindMintModel" "BlindMintModel" "blinded" "J"), (Cond.laysFinal "BlindMintModel" "BlindMintModel" "coins" "[I"), (Cond.laysFinal "BlindMintModel" "BlindMintModel" "sort" "[I"), (Cond.laysFinal "BlindMintModel" "BlindMintModel" "numbers" "[J"), (Cond.laysFinal "BlindMintModel" "BlindMintModel" "signs" "[J"), (Cond.laysFinal "BlindMintModel" "BlindMintModel" "spent" "[Z"), (Cond.laysFinal "BlindMintModel" "BlindMintModel" "parts" "[J"), (Cond.lays "BlindMintModel" "BlindMintModel" "payments" "I"), (Cond.laysFinal "BlindMintModel" "BlindMintModel" "rows" "[J"), (Cond.lays "BlindMintModel" "BlindMintModel" "deposits" "I"), (Cond.laysFinal "BlindMintModel" "BlindMintModel" "taken" "[J"), (Cond.laysFinal "BlindMintModel" "BlindMintModel" "a" "[J"), (Cond.laysFinal "BlindMintModel" "BlindMintModel" "b" "[J"), (Cond.laysFinal "BlindMintModel" "BlindMintModel" "c" "[J"), (Cond.laysFinal "BlindMintModel" "BlindMintModel" "e" "[J"), (Cond.laysFinal "BlindMintModel" "BlindMintModel" "pair" "[J"), (Cond.laysFinal "BlindMintModel" "BlindMintModel" "left" "[Z"), (Cond.laysFinal "BlindMintModel" "BlindMintModel" "hashes" "[J")], w ∈ bm_big
  exact List.forall_mem_cons.mpr ⟨bw_624, List.forall_mem_cons.mpr ⟨bw_626, List.forall_mem_cons.mpr ⟨bw_628, List.forall_mem_cons.mpr ⟨bw_630, List.forall_mem_cons.mpr ⟨bw_632, List.forall_mem_cons.mpr ⟨bw_634, List.forall_mem_cons.mpr ⟨bw_636, List.forall_mem_cons.mpr ⟨bw_638, List.forall_mem_cons.mpr ⟨bw_640, List.forall_mem_cons.mpr ⟨bw_642, List.forall_mem_cons.mpr ⟨bw_644, List.forall_mem_cons.mpr ⟨bw_646, List.forall_mem_cons.mpr ⟨bw_648, List.forall_mem_cons.mpr ⟨bw_650, List.forall_mem_cons.mpr ⟨bw_652, List.forall_mem_cons.mpr ⟨bw_654, List.forall_mem_cons.mpr ⟨bw_656, List.forall_mem_cons.mpr ⟨bw_658, List.forall_mem_cons.mpr ⟨bw_660, List.forall_mem_cons.mpr ⟨bw_662, List.forall_mem_cons.mpr ⟨bw_664, List.forall_mem_cons.mpr ⟨bw_666, fun _ h => absurd h List.not_mem_nil⟩⟩⟩⟩⟩⟩⟩⟩⟩⟩⟩⟩⟩⟩⟩⟩⟩⟩⟩⟩⟩⟩
abbrev bm_cl : List vw_C := [("BlindMint$Account", bt_A, 3), ("BlindMint$Candidate", bt_C, 7), ("BlindMint$Coin", bt_O, 6), ("BlindMint$Credit", bt_R, 5), ("BlindMint$Payment", bt_P, 1), ("BlindMint$Proposal", bt_Q, 4), ("BlindMint", bt_B, 12), ("BlindMintModel", bt_M, 22)]
/-- a method's words: its code, and all of the tables' -/
abbrev bm_ws (y : MethodName) (c : ByteArray) (n : Nat) (r : Option FieldType) : List Cond := Cond.code y c n r :: bm_big
theorem bm_goodW {y : MethodName} {c : ByteArray} {n : Nat} {r : Option FieldType} (h : Cond.code y c n r ∈ bm_big) : GoodIn bm_big (bm_ws y c n r) := fun w hw => (List.mem_cons.mp hw).elim (fun e => by subst e; exact ⟨h, bm_bigG h⟩) (fun h1 => ⟨h1, bm_bigG h1⟩)
theorem bm_goodS {own : String} {idx : Nat} {y : MethodName} {c : ByteArray} {n : Nat} {r : Option FieldType} (h1 : Cond.methodLink own idx y ∈ bm_big) (h2 : Cond.static y ∈ bm_big) (h3 : Cond.initialized y.cls ∈ bm_big) (h : Cond.code y c n r ∈ bm_big) : GoodIn bm_big (va_wsS own idx y (bm_ws y c n r)) := by
  intro w hw
  rcases List.mem_append.mp hw with hw | hw
  · have hm : w ∈ bm_big := by
      rcases List.mem_cons.mp hw with rfl | hw
      · exact h1
      rcases List.mem_cons.mp hw with rfl | hw
      · exact h2
      rcases List.mem_cons.mp hw with rfl | hw
      · exact h3
      cases hw
    exact ⟨hm, bm_bigG hm⟩
  · exact bm_goodW h w hw
theorem bm_goodV {own C : String} {idx : Nat} {y : MethodName} {c : ByteArray} {n : Nat} {r : Option FieldType} (h1 : Cond.methodLink own idx y ∈ bm_big) (h2 : Cond.instanceMethod y ∈ bm_big) (h3 : Cond.selects C y y ∈ bm_big) (h4 : Cond.initialized C ∈ bm_big) (h : Cond.code y c n r ∈ bm_big) : GoodIn bm_big (wsV own idx C y (bm_ws y c n r)) := by
  intro w hw
  rcases List.mem_append.mp hw with hw | hw
  · have hm : w ∈ bm_big := by
      rcases List.mem_cons.mp hw with rfl | hw
      · exact h1
      rcases List.mem_cons.mp hw with rfl | hw
      · exact h2
      rcases List.mem_cons.mp hw with rfl | hw
      · exact h3
      rcases List.mem_cons.mp hw with rfl | hw
      · exact h4
      cases hw
    exact ⟨hm, bm_bigG hm⟩
  · exact bm_goodW h w hw
end
section
/-! the world as a map from addresses to cells: what is held of the heap, and rows that read and write it -/
abbrev bm_Map : Type := Nat → Option va_E
def bm_up (M : bm_Map) (a : Nat) (e : va_E) : bm_Map := fun b => if b = a then some e else M b
theorem bm_up_self (M : bm_Map) (a : Nat) (e : va_E) : bm_up M a e a = some e := by simp [bm_up]
theorem bm_up_ne {M : bm_Map} {a b : Nat} {e : va_E} (h : b ≠ a) : bm_up M a e b = M b := by simp [bm_up, h]
def bm_A (base : Nat) : Nat → Prop := fun q => base ≤ q
/-- the heap holds the map; all its cells lie from base on -/
def bm_M (D : va_G) (base : Nat) (M : bm_Map) (H : Heap) : Prop := ∃ ws : va_W, va_P D bm_cl ws H ∧ va_D (bm_A base) ws ∧ ∀ (a : Nat) (e : va_E), M a = some e ↔ (a, e) ∈ ws
theorem bm_Mset {A : Nat → Prop} {M : bm_Map} {ws : va_W} {q0 a : Nat} {e0 e : va_E} (hw : ∀ (a : Nat) (e : va_E), M a = some e ↔ (a, e) ∈ ws) (hD : va_D A ws) (hq : ws[q0]? = some (a, e0)) : ∀ (b : Nat) (x : va_E), bm_up M a e b = some x ↔ (b, x) ∈ ws.set q0 (a, e) := by
  intro b x
  have hl : q0 < ws.length := (List.getElem?_eq_some_iff.mp hq).1
  constructor
  · intro h
    by_cases hb : b = a
    · subst hb
      rw [bm_up_self] at h
      cases h
      exact List.mem_of_getElem? (List.getElem?_set_self hl)
    · rw [bm_up_ne hb] at h
      obtain ⟨k, hk⟩ := List.getElem?_of_mem ((hw b x).mp h)
      have hkq : k ≠ q0 := fun z => by
        subst z
        rw [hq] at hk
        cases hk
        exact hb rfl
      exact List.mem_of_getElem? (i := k) (by rw [List.getElem?_set_ne (Ne.symm hkq)]; exact hk)
  · intro h
    obtain ⟨k, hk⟩ := List.getElem?_of_mem h
    by_cases hkq : k = q0
    · subst hkq
      rw [List.getElem?_set_self hl] at hk
      cases hk
      exact bm_up_self _ _ _
    · rw [List.getElem?_set_ne (Ne.symm hkq)] at hk
      have hb : b ≠ a := fun z => hkq (hD.1 k q0 (b, x) (a, e0) hk hq z)
      rw [bm_up_ne hb]
      exact (hw b x).mpr (List.mem_of_getElem? hk)
theorem bm_Mpush {A : Nat → Prop} {M : bm_Map} {ws : va_W} {q : Nat} {e : va_E} (hw : ∀ (a : Nat) (e : va_E), M a = some e ↔ (a, e) ∈ ws) (hD : va_D A (ws ++ [(q, e)])) : ∀ (b : Nat) (x : va_E), bm_up M q e b = some x ↔ (b, x) ∈ ws ++ [(q, e)] := by
  intro b x
  constructor
  · intro h
    by_cases hb : b = q
    · subst hb
      rw [bm_up_self] at h
      cases h
      exact List.mem_append_right _ (List.mem_singleton.mpr rfl)
    · rw [bm_up_ne hb] at h
      exact List.mem_append_left _ ((hw b x).mp h)
  · intro h
    rcases List.mem_append.mp h with h1 | h1
    · have hb : b ≠ q := fun z => by
        obtain ⟨k, hk⟩ := List.getElem?_of_mem h1
        have hl := (List.getElem?_eq_some_iff.mp hk).1
        have e1 : (ws ++ [(q, e)])[k]? = some (b, x) := by rw [List.getElem?_append_left hl]; exact hk
        have e2 : (ws ++ [(q, e)])[ws.length]? = some (q, e) := by rw [List.getElem?_append_right (Nat.le_refl _), Nat.sub_self]; rfl
        have := hD.1 k ws.length (b, x) (q, e) e1 e2 z
        omega
      rw [bm_up_ne hb]
      exact (hw b x).mpr h1
    · cases List.mem_singleton.mp h1
      exact bm_up_self _ _ _
theorem bm_M.at {D : va_G} {base : Nat} {M : bm_Map} {H : Heap} {a : Nat} {e : va_E} (h : bm_M D base M H) (he : M a = some e) : va_at D bm_cl (a, e) H ∧ base ≤ a := by
  obtain ⟨ws, hP, hD, hw⟩ := h
  obtain ⟨k, hk⟩ := List.getElem?_of_mem ((hw a e).mp he)
  exact ⟨hP k _ hk, hD.2 k _ hk⟩
theorem bm_M.lt {D : va_G} {base : Nat} {M : bm_Map} {H : Heap} {a : Nat} {e : va_E} (h : bm_M D base M H) (he : M a = some e) : a < H.size := (h.at he).1.lt
theorem bm_M.new {D : va_G} {base : Nat} {M : bm_Map} {H : Heap} (h : bm_M D base M H) {a : Nat} (ha : H.size ≤ a) : M a = none := by
  cases he : M a with
  | none => rfl
  | some e => have := h.lt he; omega
/-- the array classes -/
def bm_tys (ct : Nat → ClassId) : List (ClassId × FieldType) := [(ct 0, .int), (ct 1, .long), (ct 2, .boolean), (ct 3, .object "BlindMint$Account"), (ct 4, .object "BlindMint$Payment"), (ct 5, .object "BlindMint$Candidate"), (ct 6, .object "BlindMint$Coin")]
theorem bm_M.set {D : va_G} {base : Nat} {M : bm_Map} {H H1 : Heap} {a : Nat} {e0 e : va_E} (h : bm_M D base M H) (he : M a = some e0) (hat : va_at D bm_cl (a, e) H1) (oq : ∀ q : Nat, q ≠ a → H1[q]? = H[q]?) : bm_M D base (bm_up M a e) H1 := by
  obtain ⟨ws, hP, hD, hw⟩ := h
  obtain ⟨q0, hq⟩ := List.getElem?_of_mem ((hw a _).mp he)
  exact ⟨ws.set q0 (a, e), hP.set hD hq hat oq, hD.set hq, bm_Mset hw hD hq⟩
theorem bm_M.push {D : va_G} {base : Nat} {M : bm_Map} {H H1 : Heap} {e : va_E} (h : bm_M D base M H) (hB : base ≤ H.size) (hat : va_at D bm_cl (H.size, e) H1) (oq : ∀ q : Nat, q < H.size → H1[q]? = H[q]?) : bm_M D base (bm_up M H.size e) H1 := by
  obtain ⟨ws, hP, hD, hw⟩ := h
  have hD1 : va_D (bm_A base) (ws ++ [(H.size, e)]) := hD.push hP rfl hB
  refine ⟨ws ++ [(H.size, e)], (hP.kept (fun k x hx => oq x.1 ((hP k x hx).lt))).app (fun k x hx => ?_), hD1, bm_Mpush hw hD1⟩
  have hz : k < 1 := (List.getElem?_eq_some_iff.mp hx).1
  rw [show k = 0 by omega] at hx
  cases hx
  exact hat
/-- the int i is the place k -/
def bm_ix (i : Int32) (k : Nat) : Prop := ¬ i < 0 ∧ i.toNatClampNeg = k
theorem bm_ix_in {i : Int32} {k n : Nat} (h : bm_ix i k) (hk : k < n) : vp_in i n := by
  obtain ⟨h0, rfl⟩ := h
  intro z
  rcases z with z | z
  · exact h0 z
  · omega
theorem bm_ix_nI {k : Nat} (h : k < 2 ^ 31) : bm_ix (nI k) k := ⟨nI_pos h, nI_clamp h⟩
theorem bm_ne_oo {M : bm_Map} {a b i j : Nat} {fs gs : List Value} (ha : M a = some (.inr (i, fs))) (hb : M b = some (.inr (j, gs))) (h : i ≠ j) : b ≠ a := fun z => by
  subst z
  rw [ha] at hb
  injection hb with hb
  injection hb with hb
  injection hb with hb
  exact h hb
theorem bm_ne_oa {M : bm_Map} {a b : Nat} {x : Nat × List Value} {y : ClassId × vp_A} (ha : M a = some (.inr x)) (hb : M b = some (.inl y)) : b ≠ a := fun z => by
  subst z
  rw [ha] at hb
  cases hb
theorem bm_ne_ao {M : bm_Map} {a b : Nat} {x : Nat × List Value} {y : ClassId × vp_A} (ha : M a = some (.inl y)) (hb : M b = some (.inr x)) : b ≠ a := fun z => by
  subst z
  rw [ha] at hb
  cases hb
theorem bm_ne_aa {M : bm_Map} {a b n k : Nat} {c d : ClassId} {x y : (Nat → Int32) ⊕ (Nat → Int64) ⊕ (Nat → UInt32) ⊕ (Nat → UInt64) ⊕ (Nat → Option Nat)} (ha : M a = some (.inl (c, n, x))) (hb : M b = some (.inl (d, k, y))) (h : n ≠ k) : b ≠ a := fun z => by
  subst z
  rw [ha] at hb
  injection hb with hb
  injection hb with hb
  injection hb with _ hb
  injection hb with hb
  exact h hb
end
section
section BMR
variable {p : Program} {l : Launch} {e : Env} {R : Room} {s : State} {m : MethodId} {args : Array Value} {below : List Frame} {meth : Method} {c : Code} {H : Heap} {locs : List Loc} {cells slots : Nat} {Q : State → Prop}
variable {cc : ByteArray} {pc : Nat} {ls : Array Slot} {rest : List Value} {D : va_G} {base : Nat} {a : Nat} {tys : List (ClassId × FieldType)} {M : bm_Map} {H0 : Heap}
theorem bm_get (hexec : p.tables.exec = Jvm.exec) (hb : c.code = cc) {own ref C : String} {T : u_T} {N ci index : Nat} {Ts : List Cond} (hts : ∀ w ∈ Ts, w.before args s = true) (hin : ∀ w ∈ u_ws C T N, w ∈ Ts) (hown : s.vm.findClass own = some m.cls) (hK : va_K D bm_cl tys s) (hM : bm_M D base M H) {fs : List Value} (he : M a = some (.inr (ci, fs))) (hc : bm_cl[ci]? = some (C, T, N)) (k : Nat) (hk : k < N) (hlink : (Cond.fieldLink own index ref (T k).2.1 (T k).2.2.1).before args s = true) (hsame : ∀ x, s.fieldFound? (T k).1 (T k).2.1 (T k).2.2.1 = some x → s.fieldFound? ref (T k).2.1 (T k).2.2.1 = some x) {v : Value} (hv : fs[k]? = some v) (hdg : decode cc pc = .ok (.getfield index, 3))
    (kk : W p l e R s m args below meth c H locs cells slots Q (F0 m (pc + 3) ls (v :: rest))) : W p l e R s m args below meth c H locs cells slots Q (F0 m pc ls (.ref a :: rest)) := by
  obtain ⟨ws, hP, hD, hw⟩ := hM
  obtain ⟨q0, hq⟩ := List.getElem?_of_mem ((hw a _).mp he)
  exact va_get hexec hb hts hin hown hK hP q0 hq hc k hk hlink hsame hv hdg kk
theorem bm_put (hexec : p.tables.exec = Jvm.exec) (hb : c.code = cc) {own ref C : String} {T : u_T} {N ci index : Nat} {Ts : List Cond} (hts : ∀ w ∈ Ts, w.before args s = true) (hin : ∀ w ∈ u_ws C T N, w ∈ Ts) (ty0 : Nat → FieldType) (hty : ∀ k, k < N → parseFieldDescriptor (T k).2.2.1 = some (ty0 k)) (hnm : ∀ a, a < N → ∀ b, b < N → a ≠ b → (T a).2.1 ≠ (T b).2.1) (hown : s.vm.findClass own = some m.cls) (hK : va_K D bm_cl tys s) (hM : bm_M D base M H) (hS0 : va_S (bm_A base) H0 H locs) {fs : List Value} (he : M a = some (.inr (ci, fs))) (hc : bm_cl[ci]? = some (C, T, N)) (k : Nat) (hk : k < N) (hlink : (Cond.fieldLink own index ref (T k).2.1 (T k).2.2.1).before args s = true) (hsame : ∀ x, s.fieldFound? (T k).1 (T k).2.1 (T k).2.2.1 = some x → s.fieldFound? ref (T k).2.1 (T k).2.2.1 = some x) (hfin : (T k).2.2.2 = false) {ty : FieldType} {v : Value} (hd : parseFieldDescriptor (T k).2.2.1 = some ty) (hn : narrow ty v = v) (hfit : fits ty v = true) (hl : k < fs.length)
    (hdg : decode cc pc = .ok (.putfield index, 3)) (kk : ∀ (H1 : Heap) (locs1 : List Loc), H1.size = H.size → bm_M D base (bm_up M a (.inr (ci, fs.set k v))) H1 → va_S (bm_A base) H0 H1 locs1 → W p l e R s m args below meth c H1 locs1 cells slots Q (F0 m (pc + 3) ls rest)) : W p l e R s m args below meth c H locs cells slots Q (F0 m pc ls (v :: .ref a :: rest)) := by
  have hap := va_apart (own := own) hts hin ty0 hty hnm hK hc
  obtain ⟨⟨r, h1, cell, q1, q2, q3, q4⟩, hba⟩ := hM.at he
  have hr : r = (C, T, N) := Option.some.inj (h1.symm.trans hc)
  subst hr
  obtain ⟨hS, hfc, kC, hkC, hkind⟩ := hK.1 ci _ hc
  obtain ⟨cf, kf, fi, f, hi, hsl⟩ := hS k hk
  have hlay := hts _ (hin _ (u_in_lay hk))
  unfold u_lay at hlay
  rw [if_neg (by rw [hfin]; decide)] at hlay
  have hst := (u_facts hfc hkC (u_lays hts hin hk) hi).1
  have h6 := u_store hfc hkC hkind hlay hi hd hn hfit
  refine W.putK hexec hb (f := f) ⟨hown, hlink, ⟨_, _, _, hsame _ hi⟩, hst⟩ (by rw [q2]; exact h6) q1 q3 (by rw [hsl]; exact k2_hasslot (q4 k hk)) rfl rfl hdg fun H' e1 e2 e3 => ?_
  rw [hsl] at e1 ⊢
  exact kk H' _ e2 (hM.set he ⟨_, hc, t_OB.to (V := updV (vp_V fs) k v) ⟨_, e1, q2, q3, t_set q4 hap hk v⟩ (fun j _ => vp_updV_set hl v j)⟩ e3) (hS0.put e2 e3 hba)
theorem bm_putF (hexec : p.tables.exec = Jvm.exec) (hb : c.code = cc) {own ref C : String} {T : u_T} {N ci index : Nat} {Ts : List Cond} (hts : ∀ w ∈ Ts, w.before args s = true) (hin : ∀ w ∈ u_ws C T N, w ∈ Ts) (ty0 : Nat → FieldType) (hty : ∀ k, k < N → parseFieldDescriptor (T k).2.2.1 = some (ty0 k)) (hnm : ∀ a, a < N → ∀ b, b < N → a ≠ b → (T a).2.1 ≠ (T b).2.1) (hown : s.vm.findClass own = some m.cls) (hK : va_K D bm_cl tys s) (hM : bm_M D base M H) (hS0 : va_S (bm_A base) H0 H locs) {fs : List Value} (he : M a = some (.inr (ci, fs))) (hc : bm_cl[ci]? = some (C, T, N)) (k : Nat) (hk : k < N) (hlink : (Cond.fieldLink own index ref (T k).2.1 (T k).2.2.1).before args s = true) (hsame : ∀ x, s.fieldFound? (T k).1 (T k).2.1 (T k).2.2.1 = some x → s.fieldFound? ref (T k).2.1 (T k).2.2.1 = some x) (hfin : (T k).2.2.2 = true) (hin2 : meth.name = "<init>") (hdecl : (T k).1 = own) {ty : FieldType} {v : Value} (hd : parseFieldDescriptor (T k).2.2.1 = some ty) (hn : narrow ty v = v) (hfit : fits ty v = true) (hl : k < fs.length)
    (hdg : decode cc pc = .ok (.putfield index, 3)) (kk : ∀ (H1 : Heap) (locs1 : List Loc), H1.size = H.size → bm_M D base (bm_up M a (.inr (ci, fs.set k v))) H1 → va_S (bm_A base) H0 H1 locs1 → W p l e R s m args below meth c H1 locs1 cells slots Q (F0 m (pc + 3) ls rest)) : W p l e R s m args below meth c H locs cells slots Q (F0 m pc ls (v :: .ref a :: rest)) := by
  have hap := va_apart (own := own) hts hin ty0 hty hnm hK hc
  obtain ⟨⟨r, h1, cell, q1, q2, q3, q4⟩, hba⟩ := hM.at he
  have hr : r = (C, T, N) := Option.some.inj (h1.symm.trans hc)
  subst hr
  obtain ⟨hS, hfc, kC, hkC, hkind⟩ := hK.1 ci _ hc
  obtain ⟨cf, kf, fi, f, hi, hsl⟩ := hS k hk
  have hlay := hts _ (hin _ (u_in_lay hk))
  unfold u_lay at hlay
  rw [if_pos hfin] at hlay
  have hst := (u_facts hfc hkC (u_lays hts hin hk) hi).1
  have hcf : m.cls = cf := by
    obtain ⟨_, _, c', _, _, _, -, -, hf', -, -, -, hown2, -⟩ := Cond.laysFinal_spec hlay
    have e1 : c' = cf := by have := hi.symm.trans hf'; simp at this; exact this.1.symm
    rw [hdecl] at hown2
    rw [← e1]; exact Option.some.inj (hown.symm.trans hown2)
  have h6 := u_fits hfc hkC hkind (Or.inr hlay) hi hd hn hfit
  refine W.putFinK hexec hb hown hlink (hsame _ hi) hst hcf hin2 (by rw [q2]; exact h6) q1 q3 (by rw [hsl]; exact k2_hasslot (q4 k hk)) rfl rfl hdg fun H' e1 e2 e3 => ?_
  rw [hsl] at e1 ⊢
  exact kk H' _ e2 (hM.set he ⟨_, hc, t_OB.to (V := updV (vp_V fs) k v) ⟨_, e1, q2, q3, t_set q4 hap hk v⟩ (fun j _ => vp_updV_set hl v j)⟩ e3) (hS0.put e2 e3 hba)
theorem bm_iald (hexec : p.tables.exec = Jvm.exec) (hb : c.code = cc) (hK : va_K D bm_cl tys s) (hM : bm_M D base M H) (t0 : Nat) {cA : ClassId} {n : Nat} {f : Nat → Int32} (ha : M a = some (.inl (cA, n, .inl f))) (ht : tys[t0]? = some (cA, .int)) {i : Int32} (k : Nat) (hi : bm_ix i k) (hkn : k < n) (hdg : decode cc pc = .ok (.iaload, 1))
    (kk : W p l e R s m args below meth c H locs cells slots Q (F0 m (pc + 1) ls (.int (f k) :: rest))) : W p l e R s m args below meth c H locs cells slots Q (F0 m pc ls (.int i :: .ref a :: rest)) := by
  obtain ⟨ws, hP, hD, hw⟩ := hM
  obtain ⟨q0, hq⟩ := List.getElem?_of_mem ((hw a _).mp ha)
  obtain ⟨h0, rfl⟩ := hi
  exact va_iald hexec hb hK hP q0 t0 hq ht (bm_ix_in ⟨h0, rfl⟩ hkn) hdg kk
theorem bm_zald (hexec : p.tables.exec = Jvm.exec) (hb : c.code = cc) (hK : va_K D bm_cl tys s) (hM : bm_M D base M H) (t0 : Nat) {cA : ClassId} {n : Nat} {f : Nat → Int32} (ha : M a = some (.inl (cA, n, .inl f))) (ht : tys[t0]? = some (cA, .boolean)) {i : Int32} (k : Nat) (hi : bm_ix i k) (hkn : k < n) (hdg : decode cc pc = .ok (.baload, 1))
    (kk : W p l e R s m args below meth c H locs cells slots Q (F0 m (pc + 1) ls (.int (f k) :: rest))) : W p l e R s m args below meth c H locs cells slots Q (F0 m pc ls (.int i :: .ref a :: rest)) := by
  obtain ⟨ws, hP, hD, hw⟩ := hM
  obtain ⟨q0, hq⟩ := List.getElem?_of_mem ((hw a _).mp ha)
  obtain ⟨h0, rfl⟩ := hi
  exact va_zald hexec hb hK hP q0 t0 hq ht (bm_ix_in ⟨h0, rfl⟩ hkn) hdg kk
theorem bm_lald (hexec : p.tables.exec = Jvm.exec) (hb : c.code = cc) (hK : va_K D bm_cl tys s) (hM : bm_M D base M H) (t0 : Nat) {cA : ClassId} {n : Nat} {f : Nat → Int64} (ha : M a = some (.inl (cA, n, .inr (.inl f)))) (ht : tys[t0]? = some (cA, .long)) {i : Int32} (k : Nat) (hi : bm_ix i k) (hkn : k < n) (hdg : decode cc pc = .ok (.laload, 1))
    (kk : W p l e R s m args below meth c H locs cells slots Q (F0 m (pc + 1) ls (.long (f k) :: rest))) : W p l e R s m args below meth c H locs cells slots Q (F0 m pc ls (.int i :: .ref a :: rest)) := by
  obtain ⟨ws, hP, hD, hw⟩ := hM
  obtain ⟨q0, hq⟩ := List.getElem?_of_mem ((hw a _).mp ha)
  obtain ⟨h0, rfl⟩ := hi
  exact va_lald hexec hb hK hP q0 t0 hq ht (bm_ix_in ⟨h0, rfl⟩ hkn) hdg kk
theorem bm_aald (hexec : p.tables.exec = Jvm.exec) (hb : c.code = cc) (hK : va_K D bm_cl tys s) (hM : bm_M D base M H) (t0 : Nat) {cA : ClassId} {C : String} {n : Nat} {f : Nat → Option Nat} (ha : M a = some (.inl (cA, n, .inr (.inr (.inr (.inr f)))))) (ht : tys[t0]? = some (cA, .object C)) {i : Int32} (k : Nat) (hi : bm_ix i k) (hkn : k < n) {v : Value} (hv : va_rf (f k) = v) (hdg : decode cc pc = .ok (.aaload, 1))
    (kk : W p l e R s m args below meth c H locs cells slots Q (F0 m (pc + 1) ls (v :: rest))) : W p l e R s m args below meth c H locs cells slots Q (F0 m pc ls (.int i :: .ref a :: rest)) := by
  obtain ⟨ws, hP, hD, hw⟩ := hM
  obtain ⟨q0, hq⟩ := List.getElem?_of_mem ((hw a _).mp ha)
  obtain ⟨h0, rfl⟩ := hi
  subst hv
  exact va_aldq hexec hb hK hP q0 t0 hq ht (bm_ix_in ⟨h0, rfl⟩ hkn) hdg kk
theorem bm_alen (hexec : p.tables.exec = Jvm.exec) (hb : c.code = cc) (hK : va_K D bm_cl tys s) (hM : bm_M D base M H) (t0 : Nat) {cA : ClassId} {x : vp_A} (ha : M a = some (.inl (cA, x))) {ty : FieldType} (ht : tys[t0]? = some (cA, ty)) {v : Int32} (hv : Int32.ofNat x.1 = v) (hdg : decode cc pc = .ok (.arraylength, 1))
    (kk : W p l e R s m args below meth c H locs cells slots Q (F0 m (pc + 1) ls (.int v :: rest))) : W p l e R s m args below meth c H locs cells slots Q (F0 m pc ls (.ref a :: rest)) := by
  obtain ⟨ws, hP, hD, hw⟩ := hM
  obtain ⟨q0, hq⟩ := List.getElem?_of_mem ((hw a _).mp ha)
  exact va_alen hexec hb hK hP q0 t0 hq ht hv hdg kk
theorem bm_iast (hexec : p.tables.exec = Jvm.exec) (hb : c.code = cc) (hK : va_K D bm_cl tys s) (hM : bm_M D base M H) (hS : va_S (bm_A base) H0 H locs) (t0 : Nat) {cA : ClassId} {n : Nat} {f : Nat → Int32} (ha : M a = some (.inl (cA, n, .inl f))) (ht : tys[t0]? = some (cA, .int)) {i : Int32} {x : Int32} (k : Nat) (hi : bm_ix i k) (hkn : k < n) (hdg : decode cc pc = .ok (.iastore, 1))
    (kk : ∀ (H1 : Heap) (locs1 : List Loc), H1.size = H.size → bm_M D base (bm_up M a (.inl (cA, n, .inl (upd f k x)))) H1 → va_S (bm_A base) H0 H1 locs1 → W p l e R s m args below meth c H1 locs1 cells slots Q (F0 m (pc + 1) ls rest)) : W p l e R s m args below meth c H locs cells slots Q (F0 m pc ls (.int x :: .int i :: .ref a :: rest)) := by
  have hin := bm_ix_in hi hkn
  obtain ⟨h0, rfl⟩ := hi
  obtain ⟨hat, hba⟩ := hM.at ha
  refine W.iast hexec hb hat ((hK.2 t0 _ ht).1 n (fun j => .int (f j))) (fun q => by cases q) (by show ¬ (i < 0 ∨ (arrV _ _ _).slots.size ≤ _); rw [arrV_size]; exact hin) rfl rfl hdg fun H1 e z oq => ?_
  refine kk H1 _ z (hM.set ha ?_ oq) (hS.put z oq hba)
  show H1[a]? = some (vp_cell _ _)
  rw [e]
  rw [vp_cell_i, vp_cell_i, arrV_store]
  congr 2
  funext q
  by_cases hq : q = i.toNatClampNeg
  · subst hq
    simp [updV, upd]
  · simp [updV, upd, hq]
theorem bm_zast (hexec : p.tables.exec = Jvm.exec) (hb : c.code = cc) (hK : va_K D bm_cl tys s) (hM : bm_M D base M H) (hS : va_S (bm_A base) H0 H locs) (t0 : Nat) {cA : ClassId} {n : Nat} {f : Nat → Int32} (ha : M a = some (.inl (cA, n, .inl f))) (ht : tys[t0]? = some (cA, .boolean)) {i : Int32} {x : Int32} (k : Nat) (hi : bm_ix i k) (hkn : k < n) (hdg : decode cc pc = .ok (.bastore, 1))
    (kk : ∀ (H1 : Heap) (locs1 : List Loc), H1.size = H.size → bm_M D base (bm_up M a (.inl (cA, n, .inl (upd f k (vp_nar .boolean x))))) H1 → va_S (bm_A base) H0 H1 locs1 → W p l e R s m args below meth c H1 locs1 cells slots Q (F0 m (pc + 1) ls rest)) : W p l e R s m args below meth c H locs cells slots Q (F0 m pc ls (.int x :: .int i :: .ref a :: rest)) := by
  have hin := bm_ix_in hi hkn
  obtain ⟨h0, rfl⟩ := hi
  obtain ⟨hat, hba⟩ := hM.at ha
  refine W.zast hexec hb hat ((hK.2 t0 _ ht).1 n (fun j => .int (f j))) (fun q => by cases q) (by show ¬ (i < 0 ∨ (arrV _ _ _).slots.size ≤ _); rw [arrV_size]; exact hin) rfl rfl hdg fun H1 e z oq => ?_
  refine kk H1 _ z (hM.set ha ?_ oq) (hS.put z oq hba)
  show H1[a]? = some (vp_cell _ _)
  rw [e]
  rw [vp_cell_i, vp_cell_i, arrV_store]
  congr 2
  funext q
  by_cases hq : q = i.toNatClampNeg
  · subst hq
    simp [updV, upd, vp_nar]
    try rfl
  · simp [updV, upd, vp_nar, hq]
theorem bm_last (hexec : p.tables.exec = Jvm.exec) (hb : c.code = cc) (hK : va_K D bm_cl tys s) (hM : bm_M D base M H) (hS : va_S (bm_A base) H0 H locs) (t0 : Nat) {cA : ClassId} {n : Nat} {f : Nat → Int64} (ha : M a = some (.inl (cA, n, .inr (.inl f)))) (ht : tys[t0]? = some (cA, .long)) {i : Int32} {x : Int64} (k : Nat) (hi : bm_ix i k) (hkn : k < n) (hdg : decode cc pc = .ok (.lastore, 1))
    (kk : ∀ (H1 : Heap) (locs1 : List Loc), H1.size = H.size → bm_M D base (bm_up M a (.inl (cA, n, .inr (.inl (vp_updL f k x))))) H1 → va_S (bm_A base) H0 H1 locs1 → W p l e R s m args below meth c H1 locs1 cells slots Q (F0 m (pc + 1) ls rest)) : W p l e R s m args below meth c H locs cells slots Q (F0 m pc ls (.long x :: .int i :: .ref a :: rest)) := by
  have hin := bm_ix_in hi hkn
  obtain ⟨h0, rfl⟩ := hi
  obtain ⟨hat, hba⟩ := hM.at ha
  refine W.last hexec hb hat ((hK.2 t0 _ ht).1 n (fun j => .long (f j))) (fun q => by cases q) (by show ¬ (i < 0 ∨ (arrV _ _ _).slots.size ≤ _); rw [arrV_size]; exact hin) rfl rfl hdg fun H1 e z oq => ?_
  refine kk H1 _ z (hM.set ha ?_ oq) (hS.put z oq hba)
  show H1[a]? = some (vp_cell _ _)
  rw [e]
  rw [vp_cell_l, vp_cell_l, arrV_store]
  congr 2
  funext q
  by_cases hq : q = i.toNatClampNeg
  · subst hq
    simp [updV, vp_updL]
  · simp [updV, vp_updL, hq]
theorem bm_aast (hexec : p.tables.exec = Jvm.exec) (hb : c.code = cc) (hK : va_K D bm_cl tys s) (hM : bm_M D base M H) (hS : va_S (bm_A base) H0 H locs) (t0 ci : Nat) {cA : ClassId} {r : vw_C} {n v : Nat} {vs : List Value} {f : Nat → Option Nat} (ha : M a = some (.inl (cA, n, .inr (.inr (.inr (.inr f)))))) (ht : tys[t0]? = some (cA, .object r.1)) (hv : M v = some (.inr (ci, vs))) (hc : bm_cl[ci]? = some r) {i : Int32} (k : Nat) (hi : bm_ix i k) (hkn : k < n) (hdg : decode cc pc = .ok (.aastore, 1))
    (kk : ∀ (H1 : Heap) (locs1 : List Loc), H1.size = H.size → bm_M D base (bm_up M a (.inl (cA, n, .inr (.inr (.inr (.inr (va_up f k (some v)))))))) H1 → va_S (bm_A base) H0 H1 locs1 → W p l e R s m args below meth c H1 locs1 cells slots Q (F0 m (pc + 1) ls rest)) : W p l e R s m args below meth c H locs cells slots Q (F0 m pc ls (.ref v :: .int i :: .ref a :: rest)) := by
  obtain ⟨h0, rfl⟩ := hi
  obtain ⟨hat, hba⟩ := hM.at ha
  obtain ⟨⟨r', hr', cellV, g1, g2, g3, -⟩, -⟩ := hM.at hv
  have hcls := (hK.1 ci r hc).2
  obtain ⟨kA, comp, k1, k2, k3, -⟩ := (hK.2 t0 _ ht).2
  have hcomp : comp = D.1 ci := Option.some.inj (k3.symm.trans hcls.1)
  subst hcomp
  obtain ⟨kC, hkC, -⟩ := hcls.2
  refine W.aast hexec hb hat (fun q h => by cases h) (fun h => by cases h) k1 k2 rfl hkC ⟨h0, by show _ < (arrV _ _ _).slots.size; rw [arrV_size]; exact hkn⟩ g1 (fun q h => by rw [g3] at h; cases h) (by rw [g2]; exact hkC) (by rw [g2]; exact va_assign hcls) rfl rfl hdg fun H1 e z oq => ?_
  refine kk H1 _ z (hM.set ha ?_ oq) (hS.put z oq hba)
  show H1[a]? = some (vp_cell _ _)
  rw [e]
  rw [vp_cell_q, vp_cell_q, arrV_store]
  congr 2
  funext q
  by_cases hq : q = i.toNatClampNeg
  · subst hq
    simp [updV, va_up, va_rf]
  · simp [updV, va_up, hq]
theorem bm_new (hexec : p.tables.exec = Jvm.exec) (hb : c.code = cc) {own C : String} {T : u_T} {N ci index : Nat} {Ts : List Cond} (hts : ∀ w ∈ Ts, w.before args s = true) (hin : ∀ w ∈ u_ws C T N, w ∈ Ts) (ty : Nat → FieldType) (hty : ∀ k, k < N → parseFieldDescriptor (T k).2.2.1 = some (ty k)) (hown : s.vm.findClass own = some m.cls) (hcl : (Cond.classLink own index C).before args s = true) (hinst : (Cond.instantiable C N).before args s = true) (hini : (Cond.initialized C).before args s = true)
    (hK : va_K D bm_cl tys s) (hM : bm_M D base M H) (hS : va_S (bm_A base) H0 H locs) (hB : base ≤ H.size) (hc : bm_cl[ci]? = some (C, T, N)) {fs : List Value} (hfs : ∀ j, j < N → defaultValue (ty j) = vp_V fs j) (hcells : cells + 1 ≤ R.cells) (hslots : slots + N ≤ R.slots) (hdg : decode cc pc = .ok (.new index, 3))
    (kk : ∀ (H1 : Heap), H1.size = H.size + 1 → bm_M D base (bm_up M H.size (.inr (ci, fs))) H1 → va_S (bm_A base) H0 H1 locs → W p l e R s m args below meth c H1 locs (cells + 1) (slots + N) Q (F0 m (pc + 3) ls (.ref H.size :: rest))) : W p l e R s m args below meth c H locs cells slots Q (F0 m pc ls rest) := by
  have hKn := hK.1 ci _ hc
  refine W.newcK hexec hb hown hcl hinst hini rfl hdg hcells hslots hKn.2.1 rfl fun H1 kC hkC e1 z1 o1 => ?_
  exact kk H1 z1 (hM.push hB ⟨_, hc, (u_born ty hts hin hKn hkC e1 hty).to hfs⟩ o1) ⟨Nat.le_trans hS.1 (by omega), fun x h1 h2 => (o1 x (Nat.lt_of_lt_of_le h1 hS.1)).trans (hS.2.1 x h1 h2), hS.2.2⟩
theorem bm_newa (hexec : p.tables.exec = Jvm.exec) (hb : c.code = cc) {atype : ArrayType} (harr : (Cond.arrayClass (newarray.typeOf atype)).before args s = true) {ty : FieldType} (hty : newarray.typeOf atype = ty) (hK : va_K D bm_cl tys s) (hM : bm_M D base M H) (hS : va_S (bm_A base) H0 H locs) (hB : base ≤ H.size) (t0 : Nat) {cA : ClassId} (ht : tys[t0]? = some (cA, ty)) (hnr : ∀ C, ty ≠ .object C)
    {n : Int32} {N' : Nat} {a0 : vp_A} (ha : ∀ cA : ClassId, vp_cell cA a0 = arrV cA N' (fun _ => defaultValue ty)) (hn : ¬ n < 0) (hN : n.toNatClampNeg = N') (hbytes : N' * componentBytes ty ≤ 536870912) (hcells : cells + 1 ≤ R.cells) (hslots : slots + N' ≤ R.slots) (hdg : decode cc pc = .ok (.newarray atype, 2))
    (kk : ∀ (H1 : Heap), H1.size = H.size + 1 → bm_M D base (bm_up M H.size (.inl (cA, a0))) H1 → va_S (bm_A base) H0 H1 locs → W p l e R s m args below meth c H1 locs (cells + 1) (slots + N') Q (F0 m (pc + 2) ls (.ref H.size :: rest))) : W p l e R s m args below meth c H locs cells slots Q (F0 m pc ls (.int n :: rest)) := by
  subst hty
  refine va_newaK hexec hb harr rfl hdg rfl hn hN hbytes hcells hslots rfl fun H1 cA' e1 z1 o1 hAr hNm => ?_
  have hcc : cA' = cA := by
    have h2 := (hK.2 t0 _ ht).2
    cases atype <;> exact Option.some.inj (hNm.symm.trans h2)
  subst hcc
  refine kk H1 z1 (hM.push hB ?_ o1) ⟨Nat.le_trans hS.1 (by omega), fun x h1 h2 => (o1 x (Nat.lt_of_lt_of_le h1 hS.1)).trans (hS.2.1 x h1 h2), hS.2.2⟩
  show H1[H.size]? = some (vp_cell _ _)
  rw [ha]
  exact e1
theorem bm_newq (hexec : p.tables.exec = Jvm.exec) (hb : c.code = cc) {own C : String} {index : Nat} (hown : s.vm.findClass own = some m.cls) (hclink : (Cond.classLink own index C).before args s = true) (hover : (Cond.arrayOver (.object C)).before args s = true) (hK : va_K D bm_cl tys s) (hM : bm_M D base M H) (hS : va_S (bm_A base) H0 H locs) (hB : base ≤ H.size) (t0 : Nat) {cA : ClassId} (ht : tys[t0]? = some (cA, .object C))
    {n : Int32} {N' : Nat} (hn : ¬ n < 0) (hN : n.toNatClampNeg = N') (hbytes : N' * 4 ≤ 536870912) (hcells : cells + 1 ≤ R.cells) (hslots : slots + N' ≤ R.slots) (hdg : decode cc pc = .ok (.anewarray index, 3))
    (kk : ∀ (H1 : Heap), H1.size = H.size + 1 → bm_M D base (bm_up M H.size (.inl (cA, N', .inr (.inr (.inr (.inr (fun _ => none))))))) H1 → va_S (bm_A base) H0 H1 locs → W p l e R s m args below meth c H1 locs (cells + 1) (slots + N') Q (F0 m (pc + 3) ls (.ref H.size :: rest))) : W p l e R s m args below meth c H locs cells slots Q (F0 m pc ls (.int n :: rest)) := by
  subst hN
  refine W.anew hexec hb hown hclink hover rfl hdg rfl hn hbytes hcells hslots fun cA' kA comp f1 f2 f3 f4 => ?_
  have hcc : cA' = cA := by
    obtain ⟨kA', comp', k1, k2, k3, k4⟩ := (hK.2 t0 _ ht).2
    exact Option.some.inj (f1.symm.trans k4)
  subst hcc
  generalize hH1 : H.push ({ cls := cA', slots := Array.replicate n.toNatClampNeg .null, vm := .none } : Cell) = H1
  have z1 : H1.size = H.size + 1 := by rw [← hH1, Array.size_push]
  have e1 : H1[H.size]? = some (arrV cA' n.toNatClampNeg (fun _ => .null)) := by rw [← hH1, Array.getElem?_push_size, ← arrV_new]
  have o1 : ∀ q : Nat, q < H.size → H1[q]? = H[q]? := fun q hq => by rw [← hH1, Array.getElem?_push, if_neg (Nat.ne_of_lt hq)]
  refine kk H1 z1 (hM.push hB ?_ o1) ⟨Nat.le_trans hS.1 (by omega), fun x h1 h2 => (o1 x (Nat.lt_of_lt_of_le h1 hS.1)).trans (hS.2.1 x h1 h2), hS.2.2⟩
  show H1[H.size]? = some (vp_cell _ _)
  rw [vp_cell_q]
  exact e1
end BMR
end
section
/-! words on nest mates and casts: carried by hand -/
def bm_N (U : State) : Prop := va_Nw (Cond.methodLinkNest "BlindMint$Proposal" 27 ({ cls := "BlindMint$Candidate", name := "<init>", desc := "()V" } : MethodName) "BlindMint") U ∧ va_Nw (Cond.methodLinkNest "BlindMint" 61 ({ cls := "BlindMint$Account", name := "<init>", desc := "()V" } : MethodName) "BlindMint") U ∧ va_Nw (Cond.methodLinkNest "BlindMint$Payment" 29 ({ cls := "BlindMint", name := "isOne", desc := "(JI)Z" } : MethodName) "BlindMint") U ∧ va_Nw (Cond.methodLinkNest "BlindMint$Field" 9 ({ cls := "BlindMint", name := "isOne", desc := "(JI)Z" } : MethodName) "BlindMint") U ∧ va_Nw (Cond.castable "java/lang/IllegalArgumentException" "java/lang/IllegalArgumentException") U ∧ va_Nw (Cond.castable "java/lang/IllegalStateException" "java/lang/IllegalStateException") U ∧ va_Nw (Cond.castable "java/util/NoSuchElementException" "java/util/NoSuchElementException") U ∧ va_Nw (Cond.methodLinkNest "BlindMint$Credit" 40 ({ cls := "BlindMint", name := "isOne", desc := "(JI)Z" } : MethodName) "BlindMint") U ∧ va_Nw (Cond.castable "[J" "java/lang/Cloneable") U
theorem bm_N.same {u U : State} (h1 : u.vm = U.vm) (h : bm_N u) : bm_N U := ⟨va_Nw.same rfl h1 h.1, va_Nw.same rfl h1 h.2.1, va_Nw.same rfl h1 h.2.2.1, va_Nw.same rfl h1 h.2.2.2.1, va_Nw.same rfl h1 h.2.2.2.2.1, va_Nw.same rfl h1 h.2.2.2.2.2.1, va_Nw.same rfl h1 h.2.2.2.2.2.2.1, va_Nw.same rfl h1 h.2.2.2.2.2.2.2.1, va_Nw.same rfl h1 h.2.2.2.2.2.2.2.2⟩
theorem bm_N.warm {s U : State} (hW : s.WarmedH U.vm) (h : bm_N s) : bm_N U := ⟨va_Nw.warmM hW h.1, va_Nw.warmM hW h.2.1, va_Nw.warmM hW h.2.2.1, va_Nw.warmM hW h.2.2.2.1, va_Nw.warmC hW h.2.2.2.2.1, va_Nw.warmC hW h.2.2.2.2.2.1, va_Nw.warmC hW h.2.2.2.2.2.2.1, va_Nw.warmM hW h.2.2.2.2.2.2.2.1, va_Nw.warmC hW h.2.2.2.2.2.2.2.2⟩
theorem bm_N.w38 {U : State} (h : bm_N U) : va_Nw (Cond.methodLinkNest "BlindMint$Proposal" 27 ({ cls := "BlindMint$Candidate", name := "<init>", desc := "()V" } : MethodName) "BlindMint") U := h.1
theorem bm_N.w89 {U : State} (h : bm_N U) : va_Nw (Cond.methodLinkNest "BlindMint" 61 ({ cls := "BlindMint$Account", name := "<init>", desc := "()V" } : MethodName) "BlindMint") U := h.2.1
theorem bm_N.w194 {U : State} (h : bm_N U) : va_Nw (Cond.methodLinkNest "BlindMint$Payment" 29 ({ cls := "BlindMint", name := "isOne", desc := "(JI)Z" } : MethodName) "BlindMint") U := h.2.2.1
theorem bm_N.w212 {U : State} (h : bm_N U) : va_Nw (Cond.methodLinkNest "BlindMint$Field" 9 ({ cls := "BlindMint", name := "isOne", desc := "(JI)Z" } : MethodName) "BlindMint") U := h.2.2.2.1
theorem bm_N.w243 {U : State} (h : bm_N U) : va_Nw (Cond.castable "java/lang/IllegalArgumentException" "java/lang/IllegalArgumentException") U := h.2.2.2.2.1
theorem bm_N.w310 {U : State} (h : bm_N U) : va_Nw (Cond.castable "java/lang/IllegalStateException" "java/lang/IllegalStateException") U := h.2.2.2.2.2.1
theorem bm_N.w458 {U : State} (h : bm_N U) : va_Nw (Cond.castable "java/util/NoSuchElementException" "java/util/NoSuchElementException") U := h.2.2.2.2.2.2.1
theorem bm_N.w532 {U : State} (h : bm_N U) : va_Nw (Cond.methodLinkNest "BlindMint$Credit" 40 ({ cls := "BlindMint", name := "isOne", desc := "(JI)Z" } : MethodName) "BlindMint") U := h.2.2.2.2.2.2.2.1
theorem bm_N.w550 {U : State} (h : bm_N U) : va_Nw (Cond.castable "[J" "java/lang/Cloneable") U := h.2.2.2.2.2.2.2.2
/-! the class's constants: the static row of three denominations, and their fields -/
def bm_p : Nat → Nat
  | 0 => 1073741789
  | 1 => 998244389
  | _ => 1050000041
def bm_q : Nat → Nat
  | 0 => 1000000007
  | 1 => 900000011
  | _ => 1020000011
def bm_w : Nat → Int32
  | 0 => 1
  | 1 => 5
  | _ => 20
def bm_dn : String := "BlindMint$Denomination"
def bm_Z (base : Nat) (ad : Nat → Nat) (U : State) (H : Heap) : Prop :=
  va_Z "BlindMint" "DENOMINATIONS" "[LBlindMint$Denomination;" (.ref (ad 3)) (bm_A base) U H ∧ va_T (.object bm_dn) (ad 3) 3 (fun j => .ref (ad j)) (bm_A base) U H ∧ (∀ i, i < 3 → va_O bm_dn (ad i) (bm_A base) U H) ∧
  va_Ef 3 bm_dn "worth" "I" (fun i => .int (bm_w i)) ad (bm_A base) U H ∧ va_Ef 3 bm_dn "p" "J" (fun i => .long (lN (bm_p i))) ad (bm_A base) U H ∧ va_Ef 3 bm_dn "q" "J" (fun i => .long (lN (bm_q i))) ad (bm_A base) U H
theorem bm_Z.moved {base : Nat} {ad : Nat → Nat} {u U : State} {H : Heap} (hvm : u.vm.Alike U.vm) (h : bm_Z base ad u H) : bm_Z base ad U H :=
  ⟨va_Z.moved hvm h.1, va_T.moved hvm h.2.1, fun i hi => va_O.moved hvm (h.2.2.1 i hi), va_Ef.moved hvm h.2.2.2.1, va_Ef.moved hvm h.2.2.2.2.1, va_Ef.moved hvm h.2.2.2.2.2⟩
theorem bm_Z.kept {base : Nat} {ad : Nat → Nat} {U : State} {H H1 : Heap} (h : bm_Z base ad U H) (hq : ∀ a : Nat, a < H.size → ¬ bm_A base a → H1[a]? = H[a]?) : bm_Z base ad U H1 :=
  ⟨h.1.kept hq, h.2.1.kept hq, fun i hi => (h.2.2.1 i hi).kept hq, h.2.2.2.1.kept hq, h.2.2.2.2.1.kept hq, h.2.2.2.2.2.kept hq⟩
end
section
/-! what every method may rest on; contracts over the map; calls and returns -/
def bm_G (D : va_G) (ct : Nat → ClassId) (base : Nat) (ad : Nat → Nat) (U : State) : Prop := va_K D bm_cl (bm_tys ct) U ∧ base ≤ U.heap.size ∧ bm_N U ∧ bm_Z base ad U U.heap
theorem bm_G.K {D : va_G} {ct : Nat → ClassId} {base : Nat} {ad : Nat → Nat} {U : State} (h : bm_G D ct base ad U) : va_K D bm_cl (bm_tys ct) U := h.1
theorem bm_G.same {D : va_G} {ct : Nat → ClassId} {base : Nat} {ad : Nat → Nat} {u U : State} (h : bm_G D ct base ad u) (h1 : u.vm = U.vm) (h2 : U.heap = u.heap) : bm_G D ct base ad U :=
  ⟨va_K.moved (by rw [← h1]; exact Vm.Alike.refl u.vm) h.1, by rw [h2]; exact h.2.1, bm_N.same h1 h.2.2.1, by rw [h2]; exact bm_Z.moved (by rw [← h1]; exact Vm.Alike.refl u.vm) h.2.2.2⟩
theorem bm_G.go {D : va_G} {ct : Nat → ClassId} {base : Nat} {ad : Nat → Nat} {s U : State} {H : Heap} {locs : List Loc} (h : bm_G D ct base ad s) (hS : va_S (bm_A base) s.heap H locs) (hU : U.heap = H) (hW : s.WarmedH U.vm) : bm_G D ct base ad U :=
  ⟨va_K.moved hW.alike h.1, by rw [hU]; exact Nat.le_trans h.2.1 hS.1, bm_N.warm hW h.2.2.1, by rw [hU]; exact (bm_Z.moved hW.alike h.2.2.2).kept hS.2.1⟩
def bm_Pre (D : va_G) (ct : Nat → ClassId) (base : Nat) (ad : Nat → Nat) (M : bm_Map) (sz : Nat) (av : List Value) : Array Value → State → Prop := va_Pc av (fun U => U.heap.size = sz ∧ bm_M D base M U.heap ∧ bm_G D ct base ad U)
def bm_Post (D : va_G) (base : Nat) (post : Option Value → bm_Map → Nat → Prop) : Array Value → State → Outcome → State → Prop := fun _ st oc t => ∃ (v : Option Value) (M1 : bm_Map), oc = .returned v ∧ post v M1 t.heap.size ∧ bm_M D base M1 t.heap ∧ va_F (bm_A base) st t
/-- just this answer, this map, this size -/
def bm_Is (r : Option Value) (M1 : bm_Map) (z : Nat) : Option Value → bm_Map → Nat → Prop := fun v M n => v = r ∧ M = M1 ∧ n = z
theorem bm_Is.rf {r : Option Value} {M1 : bm_Map} {z : Nat} : bm_Is r M1 z r M1 z := ⟨rfl, rfl, rfl⟩
theorem bm_blind {D : va_G} {ct : Nat → ClassId} {base : Nat} {ad : Nat → Nat} {M : bm_Map} {sz : Nat} {av : List Value} : FrameBlind (bm_Pre D ct base ad M sz av) := fun _ U _ _ q => by
  obtain ⟨q0, q1, q2, q3⟩ := q
  exact ⟨q0, q1, q2, q3.same rfl rfl⟩
theorem bm_preS {D : va_G} {ct : Nat → ClassId} {base : Nat} {ad : Nat → Nat} {M : bm_Map} {sz : Nat} {av : List Value} {s : State} {H : Heap} {locs : List Loc} (hM : bm_M D base M H) (hG : bm_G D ct base ad s) (hS : va_S (bm_A base) s.heap H locs) (hz : H.size = sz) : PreS s H (bm_Pre D ct base ad M sz av) av :=
  ⟨bm_blind, fun U hU hW => ⟨rfl, by rw [hU]; exact hz, by rw [hU]; exact hM, hG.go hS hU hW⟩⟩
theorem bm_preV {D : va_G} {ct : Nat → ClassId} {base : Nat} {ad : Nat → Nat} {M : bm_Map} {sz b ci : Nat} {fs As : List Value} {q : vw_C} {s : State} {H : Heap} {locs : List Loc} (hM : bm_M D base M H) (hG : bm_G D ct base ad s) (hS : va_S (bm_A base) s.heap H locs) (hz : H.size = sz) (he : M b = some (.inr (ci, fs))) (hc : bm_cl[ci]? = some q) : PreV s H q.1 b (bm_Pre D ct base ad M sz (.ref b :: As)) As :=
  ⟨bm_blind, by
    obtain ⟨ws, hP, hD, hw⟩ := hM
    obtain ⟨q0, hq⟩ := List.getElem?_of_mem ((hw b _).mp he)
    exact va_recv hG.K hP hc hq, fun U hU hW => ⟨rfl, by rw [hU]; exact hz, by rw [hU]; exact hM, hG.go hS hU hW⟩⟩
/-- a method's head -/
theorem bm_ofW {l : Launch} {y : MethodName} {ws ws' : List Cond} {rm : Room} {D : va_G} {ct : Nat → ClassId} {base : Nat} {ad : Nat → Nat} {M : bm_Map} {sz : Nat} {av : List Value} {post : Option Value → bm_Map → Nat → Prop} {mc ms : Nat} {cc : ByteArray} {maxL : Nat} {ret : Option FieldType}
    (hy : plainName y.cls = true) (hw : ws = Cond.code y cc maxL ret :: ws') (hlen : (lg_sl av).length ≤ maxL)
    (body : ∀ (p : Program) (e : Env) (s : State) (m : MethodId) (args : Array Value) (below : List Frame) (meth : Method) (c : Code), p.tables.exec = Jvm.exec → c.code = cc → meth.sig.returnType = ret → meth.locks = false → (∀ w ∈ ws, w.before args s = true) → s.vm.findClass y.cls = some m.cls → c.maxLocals = maxL → meth.name = y.name →
      ∀ ls : Array Slot, lv_has ls maxL (lv_args 0 av) → s.heap.size = sz → bm_M D base M s.heap → bm_G D ct base ad s → ∀ (R : Room) (Q : State → Prop), rm = R → MQ below (bm_Post D base post) args s mc ms (bm_A base) = Q → W p l e R s m args below meth c s.heap [] 0 0 Q (F0 m 0 ls [])) :
    Met l y ws rm (bm_Pre D ct base ad M sz av) (bm_Post D base post) mc ms (bm_A base) := by
  refine Met.ofW (cc := cc) (maxL := maxL) (ret := ret) hy hw ?_
  intro p e s m args below meth c s₁ B hml hv
  obtain ⟨rfl, hsz, hM, hG⟩ := hv
  rw [lg_entry_eq]
  exact body p e s m _ below meth c B.exec B.bytes B.returns B.notSynchronized (atoms_spec (ws := ws) B.pre) (findClass_of_methodNamed B.named) hml (name_of_methodNamed B.named B.method).1 _ (lv_entry av hlen) hsz hM hG _ _ rfl rfl
section BMC
variable {p : Program} {l : Launch} {e : Env} {R : Room} {s : State} {m : MethodId} {args : Array Value} {below : List Frame} {meth : Method} {c : Code} {H : Heap} {locs : List Loc} {cells slots : Nat} {Q : State → Prop}
variable {cc : ByteArray} {pc : Nat} {ls : Array Slot} {rest st0 : List Value} {D : va_G} {base : Nat} {a : Array Value} {M M1 : bm_Map} {H0 : Heap} {mc ms : Nat} {post : Option Value → bm_Map → Nat → Prop}
theorem bm_call (hr : va_Run p l e R s m args below meth c H locs cells slots mc ms (F0 m pc ls st0) rest (bm_Post D base post a) (bm_A base)) (hS : va_S (bm_A base) H0 H locs)
    (kk : ∀ (v : Option Value) (M1 : bm_Map) (H1 : Heap) (locs1 : List Loc), post v M1 H1.size → bm_M D base M1 H1 → va_S (bm_A base) H0 H1 locs1 → H.size ≤ H1.size → W p l e R s m args below meth c H1 locs1 (cells + mc) (slots + ms) Q (F0 m (pc + 3) ls (v.toList ++ rest))) : W p l e R s m args below meth c H locs cells slots Q (F0 m pc ls st0) := by
  intro T hT X
  obtain ⟨v, st₀, t, T', L, h0, X', hL, e1, e2, ⟨v', M1, hv, hp, hm, hF⟩, st⟩ := hr T hT X
  cases hv
  have hz : H.size ≤ t.heap.size := by rw [← h0]; exact hF.1
  obtain ⟨t2, a1, b1⟩ := kk v M1 T'.heap (locs ++ L) (by rw [e1]; exact hp) (by rw [e1]; exact hm)
    ⟨Nat.le_trans hS.1 (by rw [e1]; exact hz), fun q h1 h2 => by rw [e1, hF.2 q (by rw [h0]; exact Nat.lt_of_lt_of_le h1 hS.1) h2, h0]; exact hS.2.1 q h1 h2, fun q hq => by
      rcases List.mem_append.mp hq with h | h
      · exact hS.2.2 q h
      · exact hL q h⟩ (by rw [e1]; exact hz) T' rfl X'
  exact ⟨t2, st t2 a1, b1⟩
theorem bm_callE {r : Value} {z : Nat} (hr : va_Run p l e R s m args below meth c H locs cells slots mc ms (F0 m pc ls st0) rest (bm_Post D base (bm_Is (some r) M1 z) a) (bm_A base)) (hS : va_S (bm_A base) H0 H locs)
    (kk : ∀ (H1 : Heap) (locs1 : List Loc), H1.size = z → bm_M D base M1 H1 → va_S (bm_A base) H0 H1 locs1 → W p l e R s m args below meth c H1 locs1 (cells + mc) (slots + ms) Q (F0 m (pc + 3) ls (r :: rest))) : W p l e R s m args below meth c H locs cells slots Q (F0 m pc ls st0) :=
  bm_call hr hS (fun v M2 H1 locs1 hp hm hS1 _ => by
    obtain ⟨rfl, rfl, hz⟩ := hp
    exact kk H1 locs1 hz hm hS1)
theorem bm_callU {z : Nat} (hr : va_Run p l e R s m args below meth c H locs cells slots mc ms (F0 m pc ls st0) rest (bm_Post D base (bm_Is none M1 z) a) (bm_A base)) (hS : va_S (bm_A base) H0 H locs)
    (kk : ∀ (H1 : Heap) (locs1 : List Loc), H1.size = z → bm_M D base M1 H1 → va_S (bm_A base) H0 H1 locs1 → W p l e R s m args below meth c H1 locs1 (cells + mc) (slots + ms) Q (F0 m (pc + 3) ls rest)) : W p l e R s m args below meth c H locs cells slots Q (F0 m pc ls st0) :=
  bm_call hr hS (fun v M2 H1 locs1 hp hm hS1 _ => by
    obtain ⟨rfl, rfl, hz⟩ := hp
    exact kk H1 locs1 hz hm hS1)
theorem bm_iret (hQ : MQ below (bm_Post D base post) args s mc ms (bm_A base) = Q) (hexec : p.tables.exec = Jvm.exec) (hb : c.code = cc) (hr : meth.sig.returnType = some .int) (hlk : meth.locks = false) {v : Int32} (hM : bm_M D base M1 H) (hS : va_S (bm_A base) s.heap H locs) (hp : post (some (.int v)) M1 H.size) (hc : cells ≤ mc) (hs : slots ≤ ms) (hdg : decode cc pc = .ok (.ireturn, 1)) : W p l e R s m args below meth c H locs cells slots Q (F0 m pc ls [.int v]) := by
  subst hQ
  exact W.widen hc hs (W.iret hexec hb hr (fun t ht hW => ⟨_, M1, rfl, by rw [ht]; exact hp, by rw [ht]; exact hM, hS.F ht⟩) hS.2.2 hdg hlk)
theorem bm_zret (hQ : MQ below (bm_Post D base post) args s mc ms (bm_A base) = Q) (hexec : p.tables.exec = Jvm.exec) (hb : c.code = cc) (hr : meth.sig.returnType = some .boolean) (hlk : meth.locks = false) {v : Int32} (hn : narrow .boolean (.int v) = .int v) (hM : bm_M D base M1 H) (hS : va_S (bm_A base) s.heap H locs) (hp : post (some (.int v)) M1 H.size) (hc : cells ≤ mc) (hs : slots ≤ ms) (hdg : decode cc pc = .ok (.ireturn, 1)) : W p l e R s m args below meth c H locs cells slots Q (F0 m pc ls [.int v]) := by
  subst hQ
  exact W.widen hc hs (W.zret hexec hb hr hn (fun t ht hW => ⟨_, M1, rfl, by rw [ht]; exact hp, by rw [ht]; exact hM, hS.F ht⟩) hS.2.2 hdg hlk)
theorem bm_lret (hQ : MQ below (bm_Post D base post) args s mc ms (bm_A base) = Q) (hexec : p.tables.exec = Jvm.exec) (hb : c.code = cc) (hr : meth.sig.returnType = some .long) (hlk : meth.locks = false) {v : Int64} (hM : bm_M D base M1 H) (hS : va_S (bm_A base) s.heap H locs) (hp : post (some (.long v)) M1 H.size) (hc : cells ≤ mc) (hs : slots ≤ ms) (hdg : decode cc pc = .ok (.lreturn, 1)) : W p l e R s m args below meth c H locs cells slots Q (F0 m pc ls [.long v]) := by
  subst hQ
  exact W.widen hc hs (W.lret hexec hb hr (fun t ht hW => ⟨_, M1, rfl, by rw [ht]; exact hp, by rw [ht]; exact hM, hS.F ht⟩) hS.2.2 hdg hlk)
theorem bm_vret (hQ : MQ below (bm_Post D base post) args s mc ms (bm_A base) = Q) (hexec : p.tables.exec = Jvm.exec) (hb : c.code = cc) (hr : meth.sig.returnType = none) (hlk : meth.locks = false) (hM : bm_M D base M1 H) (hS : va_S (bm_A base) s.heap H locs) (hp : post none M1 H.size) (hc : cells ≤ mc) (hs : slots ≤ ms) (hdg : decode cc pc = .ok (.return_, 1)) : W p l e R s m args below meth c H locs cells slots Q (F0 m pc ls []) := by
  subst hQ
  exact W.widen hc hs (W.vret hexec hb hr (fun t ht hW => ⟨_, M1, rfl, by rw [ht]; exact hp, by rw [ht]; exact hM, hS.F ht⟩) hS.2.2 hdg hlk)
theorem bm_aret (hQ : MQ below (bm_Post D base post) args s mc ms (bm_A base) = Q) (hexec : p.tables.exec = Jvm.exec) (hb : c.code = cc) {rt : FieldType} (hr : meth.sig.returnType = some rt) (hlk : meth.locks = false) (hrt : (∃ n, rt = .object n) ∨ ∃ t, rt = .array t) {v : Value} (hv : v = .null ∨ ∃ a, v = .ref a) (hM : bm_M D base M1 H) (hS : va_S (bm_A base) s.heap H locs) (hp : post (some v) M1 H.size) (hc : cells ≤ mc) (hs : slots ≤ ms) (hdg : decode cc pc = .ok (.areturn, 1)) : W p l e R s m args below meth c H locs cells slots Q (F0 m pc ls [v]) := by
  subst hQ
  exact W.widen hc hs (W.aret hexec hb hr hrt hv (fun t ht hW => ⟨_, M1, rfl, by rw [ht]; exact hp, by rw [ht]; exact hM, hS.F ht⟩) hS.2.2 hdg hlk)
end BMC
end
section
def bm_C : Nat → Nat → Nat
  | _, 0 => 1
  | 0, _ + 1 => 0
  | n + 1, k + 1 => bm_C n k + bm_C n (k + 1)
theorem bm_C_0 (n : Nat) : bm_C n 0 = 1 := by cases n <;> rfl
theorem bm_C_s (n k : Nat) : bm_C (n + 1) (k + 1) = bm_C n k + bm_C n (k + 1) := rfl
theorem bm_C_big : ∀ (n k : Nat), n < k → bm_C n k = 0 := by
  intro n
  induction n with
  | zero =>
    intro k h
    cases k with
    | zero => omega
    | succ k => rfl
  | succ n ih =>
    intro k h
    cases k with
    | zero => omega
    | succ k => rw [bm_C_s, ih k (by omega), ih (k + 1) (by omega)]
theorem bm_C_self (n : Nat) : bm_C n n = 1 := by
  induction n with
  | zero => rfl
  | succ n ih => rw [bm_C_s, ih, bm_C_big n (n + 1) (by omega)]
theorem bm_C_abs : ∀ (n k : Nat), (k + 1) * bm_C (n + 1) (k + 1) = (n + 1) * bm_C n k := by
  intro n
  induction n with
  | zero =>
    intro k
    cases k with
    | zero => rfl
    | succ k =>
      rw [bm_C_s, bm_C_big 0 (k + 1) (by omega), bm_C_big 0 (k + 1 + 1) (by omega)]
      simp
  | succ n ih =>
    intro k
    cases k with
    | zero =>
      have h := ih 0
      have e : bm_C (n + 1 + 1) (0 + 1) = bm_C (n + 1) 0 + bm_C (n + 1) (0 + 1) := rfl
      rw [bm_C_0] at h e ⊢
      rw [e]
      omega
    | succ k =>
      have h1 := ih k
      have h2 := ih (k + 1)
      have e : bm_C (n + 1) (k + 1) = bm_C n k + bm_C n (k + 1) := rfl
      have e2 : (n + 1) * bm_C (n + 1) (k + 1) = (n + 1) * bm_C n k + (n + 1) * bm_C n (k + 1) := by rw [e, Nat.mul_add]
      rw [bm_C_s (n + 1) (k + 1), Nat.mul_add, h2, Nat.succ_mul (k + 1), h1, Nat.succ_mul (n + 1)]
      omega
def bm_S (a n : Nat) : Nat → Nat
  | 0 => 0
  | m + 1 => bm_S a n m + bm_C n m * a ^ m
theorem bm_S_s (a n m : Nat) : bm_S a (n + 1) (m + 1) = bm_S a n (m + 1) + a * bm_S a n m := by
  induction m with
  | zero => simp [bm_S, bm_C_0]
  | succ m ih =>
    have e1 : bm_S a (n + 1) (m + 1 + 1) = bm_S a (n + 1) (m + 1) + bm_C (n + 1) (m + 1) * a ^ (m + 1) := rfl
    have e2 : bm_S a n (m + 1 + 1) = bm_S a n (m + 1) + bm_C n (m + 1) * a ^ (m + 1) := rfl
    have e3 : bm_S a n (m + 1) = bm_S a n m + bm_C n m * a ^ m := rfl
    have e4 : a * bm_S a n (m + 1) = a * bm_S a n m + bm_C n m * a ^ (m + 1) := by
      rw [e3, Nat.mul_add, Nat.pow_succ, Nat.mul_left_comm a (bm_C n m) (a ^ m), Nat.mul_comm a (a ^ m)]
    rw [e1, ih, bm_C_s, Nat.add_mul, e2, e4]
    omega
theorem bm_binom (a n : Nat) : (a + 1) ^ n = bm_S a n (n + 1) := by
  induction n with
  | zero => simp [bm_S, bm_C_0]
  | succ n ih =>
    have e2 : bm_S a n (n + 1 + 1) = bm_S a n (n + 1) + bm_C n (n + 1) * a ^ (n + 1) := rfl
    rw [bm_C_big n (n + 1) (by omega), Nat.zero_mul, Nat.add_zero] at e2
    rw [Nat.pow_succ, ih, bm_S_s, e2, Nat.mul_add, Nat.mul_one, Nat.mul_comm a, Nat.add_comm]
    omega
/-- a prime, as what is used of it -/
def bm_Pr (p : Nat) : Prop := 1 < p ∧ ∀ k, 0 < k → k < p → Nat.Coprime p k
theorem bm_C_dvd {p k : Nat} (hp : bm_Pr p) (h0 : 0 < k) (hk : k < p) : p ∣ bm_C p k := by
  obtain ⟨q, rfl⟩ : ∃ q, p = q + 1 := ⟨p - 1, by omega⟩
  obtain ⟨j, rfl⟩ : ∃ j, k = j + 1 := ⟨k - 1, by omega⟩
  have h : (q + 1) ∣ (j + 1) * bm_C (q + 1) (j + 1) := ⟨bm_C q j, bm_C_abs q j⟩
  exact Nat.Coprime.dvd_of_dvd_mul_left (hp.2 (j + 1) h0 hk) h
theorem bm_S_mod {p : Nat} (hp : bm_Pr p) (a : Nat) : ∀ m, m < p → bm_S a p (m + 1) % p = 1 % p := by
  intro m
  induction m with
  | zero => intro _; simp [bm_S, bm_C_0]
  | succ m ih =>
    intro h
    have e : bm_S a p (m + 1 + 1) = bm_S a p (m + 1) + bm_C p (m + 1) * a ^ (m + 1) := rfl
    obtain ⟨c, hc⟩ := bm_C_dvd hp (show 0 < m + 1 by omega) h
    rw [e, hc, Nat.mul_assoc, Nat.add_mul_mod_self_left]
    exact ih (by omega)
theorem bm_fermat0 {p : Nat} (hp : bm_Pr p) (a : Nat) : a ^ p % p = a % p := by
  obtain ⟨q, hq⟩ : ∃ q, p = q + 1 := ⟨p - 1, by have := hp.1; omega⟩
  induction a with
  | zero => rw [hq, Nat.zero_pow (by omega)]
  | succ a ih =>
    have e : bm_S a p (p + 1) = bm_S a p p + bm_C p p * a ^ p := rfl
    have h1 : bm_S a p p % p = 1 % p := by
      have h := bm_S_mod hp a q (by omega)
      rw [← hq] at h
      exact h
    rw [bm_binom, e, bm_C_self, Nat.one_mul, Nat.add_mod, h1, ih, ← Nat.add_mod, Nat.add_comm 1 a]
/-- Fermat -/
theorem bm_fermat {p : Nat} (hp : bm_Pr p) {a : Nat} (ha : a % p ≠ 0) : a ^ (p - 1) % p = 1 := by
  have h1p := hp.1
  have hlt : a % p < p := Nat.mod_lt _ (by omega)
  rw [Nat.pow_mod]
  generalize a % p = b at ha hlt
  have hc := hp.2 b (by omega) hlt
  obtain ⟨q, hq⟩ : ∃ q, p = q + 1 := ⟨p - 1, by omega⟩
  have e1 : p - 1 = q := by omega
  rw [e1]
  have h := bm_fermat0 hp b
  have e2 : b ^ p = b ^ q * b := by rw [hq, Nat.pow_succ]
  rw [e2] at h
  have h2 := Nat.sub_mod_eq_zero_of_mod_eq h
  have h3 : b ^ q * b - b = (b ^ q - 1) * b := (Nat.sub_one_mul (b ^ q) b).symm
  rw [h3] at h2
  obtain ⟨k, hk⟩ := Nat.Coprime.dvd_of_dvd_mul_right hc (Nat.dvd_of_mod_eq_zero h2)
  have h4 : 0 < b ^ q := Nat.pow_pos (by omega)
  have h5 : b ^ q = p * k + 1 := by omega
  rw [h5, Nat.mul_add_mod, Nat.mod_eq_of_lt h1p]
/-- no divisor among lo .. lo + 2^n - 1 -/
def bm_nd (p lo : Nat) : Nat → Bool
  | 0 => p % lo != 0
  | n + 1 => bm_nd p lo n && bm_nd p (lo + 2 ^ n) n
theorem bm_nd_ok : ∀ (n p lo d : Nat), bm_nd p lo n = true → lo ≤ d → d < lo + 2 ^ n → p % d ≠ 0 := by
  intro n
  induction n with
  | zero =>
    intro p lo d h h1 h2
    have e : d = lo := by
      have h3 : (2 : Nat) ^ 0 = 1 := rfl
      omega
    subst e
    simpa [bm_nd] using h
  | succ n ih =>
    intro p lo d h h1 h2
    have h3 : (bm_nd p lo n && bm_nd p (lo + 2 ^ n) n) = true := h
    rw [Bool.and_eq_true] at h3
    have h4 : (2 : Nat) ^ (n + 1) = 2 ^ n * 2 := Nat.pow_succ 2 n
    by_cases h5 : d < lo + 2 ^ n
    · exact ih p lo d h3.1 h1 h5
    · exact ih p (lo + 2 ^ n) d h3.2 (by omega) (by omega)
theorem bm_pr_of {p n : Nat} (h1 : 1 < p) (h : bm_nd p 2 n = true) (hb : p < (2 + 2 ^ n) * (2 + 2 ^ n)) : bm_Pr p := by
  refine ⟨h1, fun k h0 hk => ?_⟩
  have hd1 := Nat.gcd_dvd_left p k
  have hd2 := Nat.gcd_dvd_right p k
  show Nat.gcd p k = 1
  generalize Nat.gcd p k = g at hd1 hd2 ⊢
  have hg0 : 0 < g := Nat.pos_of_dvd_of_pos hd2 h0
  have hgk : g ≤ k := Nat.le_of_dvd h0 hd2
  obtain ⟨c, hc⟩ := hd1
  by_cases hg : g = 1
  · exact hg
  exfalso
  have hc2 : 2 ≤ c := by
    match c, hc with
    | 0, hc => omega
    | 1, hc => omega
    | c + 2, _ => omega
  have small : ∀ d, 2 ≤ d → d ∣ p → d * d ≤ p → False := fun d h2 hdv hdd => by
    have hlt : d < 2 + 2 ^ n := by
      refine Nat.lt_of_not_le (fun hge => ?_)
      have := Nat.mul_le_mul hge hge
      omega
    exact bm_nd_ok n p 2 d h h2 hlt (Nat.mod_eq_zero_of_dvd hdv)
  rcases Nat.le_total g c with hgc | hgc
  · exact small g (by omega) ⟨c, hc⟩ (by rw [hc]; exact Nat.mul_le_mul_left g hgc)
  · exact small c hc2 ⟨g, by rw [hc, Nat.mul_comm]⟩ (by rw [hc]; exact Nat.mul_le_mul_right c hgc)
theorem bm_pr_p0 : bm_Pr 1073741789 := bm_pr_of (n := 15) (by decide) (by decide +kernel) (by decide)
theorem bm_pr_q0 : bm_Pr 1000000007 := bm_pr_of (n := 15) (by decide) (by decide +kernel) (by decide)
theorem bm_pr_p1 : bm_Pr 998244389 := bm_pr_of (n := 15) (by decide) (by decide +kernel) (by decide)
theorem bm_pr_q1 : bm_Pr 900000011 := bm_pr_of (n := 15) (by decide) (by decide +kernel) (by decide)
theorem bm_pr_p2 : bm_Pr 1050000041 := bm_pr_of (n := 15) (by decide) (by decide +kernel) (by decide)
theorem bm_pr_q2 : bm_Pr 1020000011 := bm_pr_of (n := 15) (by decide) (by decide +kernel) (by decide)
/-- the powers' loop, bit by bit -/
theorem bm_pow_1 {b e p i : Nat} (h : e / 2 ^ i % 2 = 1) : b ^ (e % 2 ^ i) % p * (b ^ (2 ^ i) % p) % p = b ^ (e % 2 ^ (i + 1)) % p := by
  rw [← Nat.mul_mod, ← Nat.pow_add, Nat.mod_pow_succ, h, Nat.mul_one]
theorem bm_pow_0 {b e p i : Nat} (h : e / 2 ^ i % 2 = 0) : b ^ (e % 2 ^ i) % p = b ^ (e % 2 ^ (i + 1)) % p := by
  rw [Nat.mod_pow_succ, h, Nat.mul_zero, Nat.add_zero]
theorem bm_pow_s {b p i : Nat} : b ^ (2 ^ i) % p * (b ^ (2 ^ i) % p) % p = b ^ (2 ^ (i + 1)) % p := by
  rw [← Nat.mul_mod, ← Nat.pow_add, Nat.pow_succ 2 i, Nat.mul_two]
/-- blind, sign, unblind: modulo one prime -/
theorem bm_unb {p u k r m b : Nat} (hp : bm_Pr p) (hr : r % p ≠ 0) (hu : 17 * u = 1 + k * (p - 1)) (hb : b % p = m * r ^ 17 % p) : b ^ u % p * (r ^ (p - 2) % p) % p = m ^ u % p := by
  have h1p := hp.1
  have e : (m * r ^ 17) ^ u * r ^ (p - 2) = m ^ u * (r ^ (p - 1)) ^ (k + 1) := by
    have e1 : 1 + k * (p - 1) + (p - 2) = (p - 1) * (k + 1) := by
      obtain ⟨t, ht⟩ : ∃ t, p - 2 = t := ⟨_, rfl⟩
      have h9 : p - 1 = t + 1 := by omega
      rw [ht, h9, Nat.mul_add (t + 1) k 1, Nat.mul_one, Nat.mul_comm (t + 1) k]
      omega
    rw [Nat.mul_pow, ← Nat.pow_mul, hu, Nat.mul_assoc, ← Nat.pow_add, e1, Nat.pow_mul]
  rw [Nat.pow_mod b, hb, ← Nat.pow_mod, ← Nat.mul_mod, e, Nat.mul_mod, Nat.pow_mod (r ^ (p - 1)), bm_fermat hp hr, Nat.one_pow, Nat.mod_eq_of_lt h1p, Nat.mul_one, Nat.mod_mod]
/-- the remainder of y - x -/
def bm_fm (q x y : Nat) : Nat := (((y : Int) - (x : Int)) % (q : Int)).toNat
/-- the number that leaves x and y -/
def bm_jn (p q i x y : Nat) : Nat := x + p * (bm_fm q x y * i % q)
theorem bm_fm_lt {q x y : Nat} (h : 0 < q) : bm_fm q x y < q := by
  have h1 := Int.emod_nonneg ((y : Int) - (x : Int)) (show (q : Int) ≠ 0 by omega)
  have h2 := Int.emod_lt_of_pos ((y : Int) - (x : Int)) (show 0 < (q : Int) by omega)
  unfold bm_fm
  omega
theorem bm_fm_add {q x y : Nat} (h : 0 < q) : (x + bm_fm q x y) % q = y % q := by
  have h1 := Int.emod_nonneg ((y : Int) - (x : Int)) (show (q : Int) ≠ 0 by omega)
  have h2 : ((bm_fm q x y : Nat) : Int) = ((y : Int) - (x : Int)) % (q : Int) := by unfold bm_fm; omega
  have h3 : (((x + bm_fm q x y) % q : Nat) : Int) = ((y % q : Nat) : Int) := by
    rw [Int.natCast_emod, Int.natCast_add, h2, Int.add_emod_emod, Int.natCast_emod]
    congr 1
    omega
  exact Int.ofNat.inj h3
theorem bm_jn_p {p q i x y : Nat} (hx : x < p) : bm_jn p q i x y % p = x := by
  unfold bm_jn
  rw [Nat.add_mul_mod_self_left, Nat.mod_eq_of_lt hx]
theorem bm_jn_q {p q i x y : Nat} (hq : 0 < q) (hi : p * i % q = 1) (hy : y < q) : bm_jn p q i x y % q = y := by
  unfold bm_jn
  have e : p * (bm_fm q x y * i % q) % q = bm_fm q x y % q := by
    rw [Nat.mul_mod_mod, Nat.mul_left_comm, Nat.mul_mod, hi, Nat.mul_one, Nat.mod_mod]
  rw [Nat.add_mod, e, ← Nat.add_mod, bm_fm_add hq, Nat.mod_eq_of_lt hy]
theorem bm_jn_lt {p q i x y : Nat} (hq : 0 < q) (hx : x < p) : bm_jn p q i x y < p * q := by
  unfold bm_jn
  have h1 : bm_fm q x y * i % q + 1 ≤ q := Nat.mod_lt _ hq
  have h2 := Nat.mul_le_mul_left p h1
  rw [Nat.mul_add, Nat.mul_one] at h2
  omega
end
section
/-! ===== lN n to 2^64: shifts, and, or, masks, one bit ===== -/
theorem wb_tb (n : Nat) : (lN n).toBitVec = BitVec.ofNat 64 n := rfl
theorem wb_inj {a b : Int64} (h : a.toBitVec = b.toBitVec) : a = b := Int64.toBitVec_inj.mp h
theorem wb_tn {n : Nat} (h : n < 2 ^ 64) : (lN n).toBitVec.toNat = n := by rw [wb_tb, BitVec.toNat_ofNat, Nat.mod_eq_of_lt h]
theorem wb_of (x : Int64) : ∃ n, n < 2 ^ 64 ∧ x = lN n := ⟨x.toBitVec.toNat, x.toBitVec.isLt, wb_inj (by rw [wb_tb]; simp)⟩
theorem wb_of32 (x : Int32) : ∃ n, n < 2 ^ 32 ∧ x = nI n := ⟨x.toBitVec.toNat, x.toBitVec.isLt, Int32.toBitVec_inj.mp (by show _ = BitVec.ofNat 32 _; simp)⟩
theorem wb_c : ∀ k, k < 64 → ((nI k).toInt64 &&& 63) = lN k := by decide +kernel
theorem wb_cu : ∀ k, k < 64 → ((nI k).toInt64.toUInt64 &&& Int64.toUInt64 63) = UInt64.ofNat k := by decide +kernel
theorem wb_sm : ∀ k, k < 64 → (BitVec.ofNat 64 k).smod 64 = BitVec.ofNat 64 k := by decide +kernel
theorem wb_pw {a b : Nat} (h : a ≤ b) : 2 ^ b = 2 ^ a * 2 ^ (b - a) := by rw [← Nat.pow_add]; congr 1; omega
theorem wb_lt2 {a b : Nat} (h : a < b) : 2 ^ a < 2 ^ b := Nat.pow_lt_pow_right (by decide) h
theorem wb_mod (n : Nat) : lN n = lN (n % 2 ^ 64) := wb_inj (by rw [wb_tb, wb_tb]; apply BitVec.eq_of_toNat_eq; rw [BitVec.toNat_ofNat, BitVec.toNat_ofNat, Nat.mod_mod])
theorem wb_shr {n k : Nat} (hn : n < 2 ^ 64) (hk : k < 64) : ((lN n).toUInt64 >>> ((nI k).toInt64.toUInt64 &&& Int64.toUInt64 63)).toInt64 = lN (n / 2 ^ k) := by
  rw [wb_cu k hk]
  apply wb_inj
  apply BitVec.eq_of_toNat_eq
  show ((lN n).toUInt64 >>> UInt64.ofNat k).toNat = (BitVec.ofNat 64 _).toNat
  have h1 : (UInt64.ofNat k).toNat = k := by
    show (BitVec.ofNat 64 k).toNat = k
    rw [BitVec.toNat_ofNat, Nat.mod_eq_of_lt (by omega)]
  have h2 : (lN n).toUInt64.toNat = n := wb_tn hn
  rw [UInt64.toNat_shiftRight, h1, h2, Nat.mod_eq_of_lt hk, Nat.shiftRight_eq_div_pow, BitVec.toNat_ofNat, Nat.mod_eq_of_lt (Nat.lt_of_le_of_lt (Nat.div_le_self _ _) hn)]
theorem wb_shl (n : Nat) {k : Nat} (hk : k < 64) : lN n <<< ((nI k).toInt64 &&& 63) = lN (n * 2 ^ k) := by
  rw [wb_c k hk]
  apply wb_inj
  rw [Int64.toBitVec_shiftLeft, wb_tb, wb_tb, wb_tb, wb_sm k hk]
  apply BitVec.eq_of_toNat_eq
  rw [BitVec.shiftLeft_eq', BitVec.toNat_shiftLeft, BitVec.toNat_ofNat, BitVec.toNat_ofNat, BitVec.toNat_ofNat, Nat.mod_eq_of_lt (show k < 2 ^ 64 by omega), Nat.shiftLeft_eq, Nat.mul_mod, Nat.mod_mod, ← Nat.mul_mod]
theorem wb_and {a b : Nat} (ha : a < 2 ^ 64) (hb : b < 2 ^ 64) : lN a &&& lN b = lN (a &&& b) := by
  apply wb_inj
  rw [Int64.toBitVec_and, wb_tb, wb_tb, wb_tb]
  apply BitVec.eq_of_toNat_eq
  rw [BitVec.toNat_and, BitVec.toNat_ofNat, BitVec.toNat_ofNat, BitVec.toNat_ofNat, Nat.mod_eq_of_lt ha, Nat.mod_eq_of_lt hb, Nat.mod_eq_of_lt (Nat.and_lt_two_pow _ hb)]
theorem wb_or {a b : Nat} (ha : a < 2 ^ 64) (hb : b < 2 ^ 64) : lN a ||| lN b = lN (a ||| b) := by
  apply wb_inj
  rw [Int64.toBitVec_or, wb_tb, wb_tb, wb_tb]
  apply BitVec.eq_of_toNat_eq
  rw [BitVec.toNat_or, BitVec.toNat_ofNat, BitVec.toNat_ofNat, BitVec.toNat_ofNat, Nat.mod_eq_of_lt ha, Nat.mod_eq_of_lt hb, Nat.mod_eq_of_lt (Nat.or_lt_two_pow ha hb)]
theorem wb_mask {n k : Nat} (hn : n < 2 ^ 64) (hk : k < 64) : lN n &&& lN (2 ^ k - 1) = lN (n % 2 ^ k) := by
  rw [wb_and hn (by have := wb_lt2 hk; omega), Nat.and_two_pow_sub_one_eq_mod]
theorem wb_a1 {n : Nat} (hn : n < 2 ^ 64) : lN n &&& 1 = lN (n % 2) := wb_mask (k := 1) hn (by decide)
theorem wb_bit {n k : Nat} (hn : n < 2 ^ 64) (hk : k < 64) : ((lN n).toUInt64 >>> ((nI k).toInt64.toUInt64 &&& Int64.toUInt64 63)).toInt64 &&& 1 = lN (n / 2 ^ k % 2) := by
  rw [wb_shr hn hk, wb_a1 (Nat.lt_of_le_of_lt (Nat.div_le_self _ _) hn)]
/-! ===== lN to 2^62 under >> and >>> ===== -/
theorem pf_lI {a : Nat} (h : a < 2 ^ 63) : (lN a).toInt = (a : Int) := lg_ofNat_toInt h
theorem pf_shr {a d : Nat} {D : Int64} (hD : (D.toBitVec.smod 64).toNat = d) (h : a < 2 ^ 62) : lN a >>> D = lN (a / 2 ^ d) := by
  have hd : a / 2 ^ d ≤ a := Nat.div_le_self _ _
  apply Int64.toInt_inj.mp
  have e : (lN a >>> D).toInt = (lN a).toInt >>> d := by
    rw [← hD]
    exact BitVec.toInt_sshiftRight ..
  rw [e, Int.shiftRight_eq_div_pow, pf_lI (by omega), pf_lI (by omega)]
  rfl
/-! HASH, and the numbers -/
def bm_step (h v : Int64) : Int64 := ((h ^^^ v) * 6364136223846793005 + 1442695040888963407) ^^^ (((h ^^^ v) * 6364136223846793005 + 1442695040888963407).toUInt64 >>> ((29 : Int32).toInt64.toUInt64 &&& Int64.toUInt64 63)).toInt64
def bm_end (h : Int64) : Int64 := h &&& 576460752303423487
def bm_h2 (v w : Int64) : Int64 := bm_end (bm_step (bm_step 7 v) w)
def bm_h3 (u v w : Int64) : Int64 := bm_end (bm_step (bm_step (bm_step 7 u) v) w)
/-- a coin's number -/
def bm_hc (d : Int64) (f : Nat → Int64) : Int64 := bm_end (bm_step (bm_step (bm_step (bm_step (bm_step 7 d) (f 0)) (f 1)) (f 2)) (f 3))
theorem bm_end_n (h : Int64) : ∃ n, n < 2 ^ 59 ∧ bm_end h = lN n := by
  obtain ⟨n, hn, rfl⟩ := wb_of h
  exact ⟨n % 2 ^ 59, Nat.mod_lt _ (by decide), wb_mask (k := 59) hn (by decide)⟩
/-- bit i of x -/
def bm_one (x : Int64) (i : Int32) : Int32 := if (x >>> (i.toInt64 &&& 63)) &&& 1 = 1 then 1 else 0
theorem bm_sh : ∀ k, k < 64 → (((nI k).toInt64 &&& 63).toBitVec.smod 64).toNat = k := by decide +kernel
theorem bm_one_n {n k : Nat} (hn : n < 2 ^ 62) (hk : k < 64) : bm_one (lN n) (nI k) = if n / 2 ^ k % 2 = 1 then 1 else 0 := by
  unfold bm_one
  rw [pf_shr (bm_sh k hk) hn, wb_a1 (Nat.lt_of_le_of_lt (Nat.div_le_self _ _) (by omega))]
  have h2 : n / 2 ^ k % 2 < 2 := Nat.mod_lt _ (by decide)
  have e : (lN (n / 2 ^ k % 2) = 1) = (n / 2 ^ k % 2 = 1) := propext (by
    have := pk_lEQ (a := n / 2 ^ k % 2) (b := 1) (by omega) (by decide)
    exact this)
  simp only [e]
theorem bm_inc (i : Nat) : nI i + Int32.ofInt 1 = nI (i + 1) := nI_1 i
end
section
theorem bm_neg_T {a : Nat} (ha : a < 2 ^ 62) : (-(lN a)).toInt = -(a : Int) := by
  rw [Int64.toInt_neg, pk_lT (by omega)]
  exact Int.bmod_eq_of_le (by omega) (by omega)
theorem bm_neg_div {a b : Nat} (ha : a < 2 ^ 62) (h0 : 0 < b) (hb : b < 2 ^ 62) : -(lN a) / lN b = -(lN (a / b)) := by
  apply Int64.toInt_inj.mp
  have hne : lN b ≠ -1 := fun z => by
    have h1 := congrArg Int64.toInt z
    rw [pk_lT (by omega)] at h1
    have h2 : (-1 : Int64).toInt = -1 := by decide
    omega
  rw [Int64.toInt_div_of_ne_right _ _ hne, bm_neg_T ha, pk_lT (by omega), Int.neg_tdiv, bm_neg_T (Nat.lt_of_le_of_lt (Nat.div_le_self a b) ha)]
  rfl
theorem bm_neg_rem {a b : Nat} (ha : a < 2 ^ 62) (h0 : 0 < b) (hb : b < 2 ^ 62) : -(lN a) - -(lN a) / lN b * lN b = -(lN (a % b)) := by
  rw [bm_neg_div ha h0 hb]
  have e : lN a = lN (a / b) * lN b + lN (a % b) := by
    rw [lN_mul, lN_add]
    exact congrArg lN (Nat.div_add_mod' a b).symm
  rw [e]
  generalize lN (a / b) = X
  generalize lN b = Y
  generalize lN (a % b) = Z
  grind
theorem bm_sub_neg {x y : Nat} (h : y < x) : lN y - lN x = -(lN (x - y)) := by
  rw [← lN_sub (Nat.le_of_lt h)]
  grind
theorem bm_fm_eq {q x y u : Nat} (hq : 0 < q) (hu : u < q) (h : (x + u) % q = y % q) : bm_fm q x y = u := by
  have h1 := bm_fm_lt (x := x) (y := y) hq
  have h2 : ((x + bm_fm q x y) % q : Nat) = (x + u) % q := by rw [bm_fm_add hq, h]
  have h3 : (((bm_fm q x y : Nat) : Int) + (x : Int)) % (q : Int) = ((u : Int) + (x : Int)) % (q : Int) := by
    have h4 : (((x + bm_fm q x y) % q : Nat) : Int) = (((x + u) % q : Nat) : Int) := by rw [h2]
    rw [Int.natCast_emod, Int.natCast_emod, Int.natCast_add, Int.natCast_add] at h4
    rw [Int.add_comm, h4, Int.add_comm]
  have h5 := Int.emod_add_cancel_right (x : Int) |>.mp h3
  rw [Int.emod_eq_of_lt (by omega) (by omega), Int.emod_eq_of_lt (by omega) (by omega)] at h5
  omega
theorem bm_fm_le {q x y : Nat} (hq : 0 < q) (h : x ≤ y) : bm_fm q x y = (y - x) % q := by
  refine bm_fm_eq hq (Nat.mod_lt _ hq) ?_
  rw [Nat.add_mod_mod]
  congr 1
  omega
theorem bm_fm_gt {q x y : Nat} (hq : 0 < q) (h : y < x) : bm_fm q x y = (q - (x - y) % q) % q := by
  refine bm_fm_eq hq (Nat.mod_lt _ hq) ?_
  rw [Nat.add_mod_mod]
  have h1 := Nat.mod_lt (x - y) hq
  have h2 := Nat.div_add_mod (x - y) q
  have e : x + (q - (x - y) % q) = y + q * ((x - y) / q + 1) := by
    rw [Nat.mul_add, Nat.mul_one]
    omega
  rw [e, Nat.add_mul_mod_self_left]
/-- the reference's ((y - x) % q + q) % q -/
theorem bm_fm_model {q x y : Nat} (hq : 0 < q) (hq2 : q < 2 ^ 31) (hx : x < 2 ^ 31) (hy : y < 2 ^ 31) : (lN y - lN x - (lN y - lN x) / lN q * lN q + lN q) - (lN y - lN x - (lN y - lN x) / lN q * lN q + lN q) / lN q * lN q = lN (bm_fm q x y) := by
  by_cases h : x ≤ y
  · have h1 := Nat.mod_lt (y - x) hq
    rw [lN_sub h, pk_lRem (by omega) hq (by omega), lN_add, pk_lRem (by omega) hq (by omega), bm_fm_le hq h, Nat.add_mod_right, Nat.mod_mod]
  · have h1 := Nat.mod_lt (x - y) hq
    have e : -(lN ((x - y) % q)) + lN q = lN (q - (x - y) % q) := by
      rw [← lN_sub (Nat.le_of_lt h1)]
      grind
    rw [bm_sub_neg (by omega), bm_neg_rem (by omega) hq (by omega), e, pk_lRem (by omega) hq (by omega), bm_fm_gt hq (by omega)]
theorem bm_lN_ne {q : Nat} (h0 : 0 < q) (h : q < 2 ^ 63) : ¬ lN q = 0 := fun z => by
  have h1 := (pk_lEQ (a := q) (b := 0) h (by decide)).mp z
  omega
theorem bm_lN_le0 {k : Nat} (h : k < 2 ^ 63) (h2 : lN k ≤ 0) : k = 0 := by
  have h1 := (pk_lLE (a := k) (b := 0) h (by decide)).mp h2
  omega
theorem bm_lN_1 {k : Nat} (h : k < 2 ^ 63) (h2 : lN k = 1) : k = 1 := (pk_lEQ (a := k) (b := 1) h (by decide)).mp h2
theorem bm_lN_0 {k : Nat} (h2 : ¬ lN (k % 2) = 1) : k % 2 = 0 := by
  have h3 : k % 2 < 2 := Nat.mod_lt _ (by decide)
  have h4 : ¬ k % 2 = 1 := fun z => h2 (by rw [z]; rfl)
  omega
theorem bm_pow_z {b e q : Nat} (hq : 1 < q) : (1 : Int64) = lN (b ^ (e % 2 ^ 0) % q) := by
  rw [Nat.pow_zero, Nat.mod_one, Nat.pow_zero, Nat.mod_eq_of_lt hq]
  rfl
theorem bm_mul_lt {a b q : Nat} (ha : a < q) (hb : b < q) (hq : q < 2 ^ 31) : a * b < 2 ^ 63 := by
  have h1 : a * b ≤ 2 ^ 31 * 2 ^ 31 := Nat.mul_le_mul (by omega) (by omega)
  have h2 : (2 : Nat) ^ 31 * 2 ^ 31 < 2 ^ 63 := by decide
  omega
theorem bm_half {e i : Nat} (he : e < 2 ^ 62) : lN (e / 2 ^ i) >>> ((1 : Int32).toInt64 &&& 63) = lN (e / 2 ^ (i + 1)) := by
  have h1 : e / 2 ^ i ≤ e := Nat.div_le_self _ _
  rw [pf_shr (d := 1) (by decide) (by omega), Nat.div_div_eq_div_mul, Nat.pow_one, ← Nat.pow_succ]
end
section
/-! the four parts in their order: 'the least of those left' and 'sorted' name the same ones -/
def bm_lst (lf : Nat → Int32) (pr : Nat → Int64) : Nat → Int32
  | 0 => -1
  | j + 1 => if ¬ lf j = 0 ∧ (bm_lst lf pr j < 0 ∨ pr j < pr (bm_lst lf pr j).toNatClampNeg) then nI j else bm_lst lf pr j
theorem bm_lst_ok (lf : Nat → Int32) (pr : Nat → Int64) : ∀ n, n ≤ 6 → ((∀ j, j < n → lf j = 0) ∧ bm_lst lf pr n = -1) ∨ ∃ b, b < n ∧ ¬ lf b = 0 ∧ bm_lst lf pr n = nI b ∧ ∀ j, j < n → ¬ lf j = 0 → (pr b).toInt ≤ (pr j).toInt ∧ ((pr j).toInt = (pr b).toInt → b ≤ j) := by
  intro n
  induction n with
  | zero =>
    intro _
    exact Or.inl ⟨fun j h => absurd h (Nat.not_lt_zero j), rfl⟩
  | succ n ih =>
    intro hn
    have e : bm_lst lf pr (n + 1) = if ¬ lf n = 0 ∧ (bm_lst lf pr n < 0 ∨ pr n < pr (bm_lst lf pr n).toNatClampNeg) then nI n else bm_lst lf pr n := rfl
    rcases ih (by omega) with ⟨h0, h1⟩ | ⟨b, hb, hl, h1, h2⟩
    · by_cases hz : lf n = 0
      · refine Or.inl ⟨fun j hj => ?_, ?_⟩
        · by_cases hjn : j = n
          · rw [hjn]; exact hz
          · exact h0 j (by omega)
        · rw [e, if_neg (fun q => q.1 hz)]
          exact h1
      · refine Or.inr ⟨n, by omega, hz, ?_, fun j hj hlj => ?_⟩
        · rw [e, if_pos ⟨hz, Or.inl (by rw [h1]; decide)⟩]
        · have hjn : j = n := by
            refine Decidable.byContradiction (fun q => ?_)
            exact hlj (h0 j (by omega))
          subst hjn
          exact ⟨Int.le_refl _, fun _ => Nat.le_refl _⟩
    · have hnn : ¬ bm_lst lf pr n < 0 := by rw [h1]; exact nI_pos (by omega)
      have hcl : (bm_lst lf pr n).toNatClampNeg = b := by rw [h1]; exact nI_clamp (by omega)
      by_cases hz : ¬ lf n = 0 ∧ pr n < pr b
      · have hlt := Int64.lt_iff_toInt_lt.mp hz.2
        refine Or.inr ⟨n, by omega, hz.1, ?_, fun j hj hlj => ?_⟩
        · rw [e, if_pos ⟨hz.1, Or.inr (by rw [hcl]; exact hz.2)⟩]
        · by_cases hjn : j = n
          · subst hjn
            exact ⟨Int.le_refl _, fun _ => Nat.le_refl _⟩
          · have h3 := h2 j (by omega) hlj
            exact ⟨by omega, fun q => by omega⟩
      · refine Or.inr ⟨b, by omega, hl, ?_, fun j hj hlj => ?_⟩
        · rw [e, if_neg (fun q => hz ⟨q.1, by
            rcases q.2 with q | q
            · exact absurd q hnn
            · rw [hcl] at q; exact q⟩)]
          exact h1
        · by_cases hjn : j = n
          · subst hjn
            have h3 : ¬ pr j < pr b := fun q => hz ⟨hlj, q⟩
            rw [Int64.lt_iff_toInt_lt] at h3
            exact ⟨by omega, fun _ => by omega⟩
          · exact h2 j (by omega) hlj
/-- which are left, and which one is taken -/
def bm_lf (lf : Nat → Int32) (pr : Nat → Int64) : Nat → Nat → Int32
  | 0 => lf
  | i + 1 => upd (bm_lf lf pr i) (bm_lst (bm_lf lf pr i) pr 6).toNatClampNeg 0
def bm_or (lf : Nat → Int32) (pr : Nat → Int64) (i : Nat) : Nat := (bm_lst (bm_lf lf pr i) pr 6).toNatClampNeg
/-- i stands ahead of j -/
def bm_lx (pr : Nat → Int64) (i j : Nat) : Prop := (pr i).toInt < (pr j).toInt ∨ ((pr i).toInt = (pr j).toInt ∧ i < j)
theorem bm_or_eq {lf : Nat → Int32} {pr : Nat → Int64} {q : Nat → Nat} (hq : ∀ i, i < 4 → q i < 6) (hs : ∀ i j, i < j → j < 4 → bm_lx pr (q i) (q j)) (hl : ∀ j, j < 6 → (¬ lf j = 0 ↔ ∃ t, t < 4 ∧ j = q t)) :
    ∀ i, i ≤ 4 → (∀ j, j < 6 → (¬ bm_lf lf pr i j = 0 ↔ ∃ t, i ≤ t ∧ t < 4 ∧ j = q t)) ∧ (i < 4 → bm_lst (bm_lf lf pr i) pr 6 = nI (q i)) := by
  have key : ∀ i, (∀ j, j < 6 → (¬ bm_lf lf pr i j = 0 ↔ ∃ t, i ≤ t ∧ t < 4 ∧ j = q t)) → i < 4 → bm_lst (bm_lf lf pr i) pr 6 = nI (q i) := by
    intro i h hi
    have hqi := (h (q i) (hq i hi)).mpr ⟨i, Nat.le_refl _, hi, rfl⟩
    rcases bm_lst_ok (bm_lf lf pr i) pr 6 (Nat.le_refl _) with ⟨h0, -⟩ | ⟨b, hb, hlb, h1, h2⟩
    · exact absurd (h0 (q i) (hq i hi)) hqi
    · obtain ⟨t, ht1, ht2, ht3⟩ := (h b hb).mp hlb
      have h3 := h2 (q i) (hq i hi) hqi
      by_cases hti : t = i
      · rw [h1, ht3, hti]
      · exfalso
        have h4 := hs i t (by omega) ht2
        rw [← ht3] at h4
        rcases h4 with h4 | ⟨h4, h5⟩
        · omega
        · have := h3.2 h4
          omega
  intro i
  induction i with
  | zero =>
    intro _
    have h0 : ∀ j, j < 6 → (¬ bm_lf lf pr 0 j = 0 ↔ ∃ t, 0 ≤ t ∧ t < 4 ∧ j = q t) := fun j hj => ⟨fun z => by
      obtain ⟨t, h1, h2⟩ := (hl j hj).mp z
      exact ⟨t, Nat.zero_le _, h1, h2⟩, fun ⟨t, _, h1, h2⟩ => (hl j hj).mpr ⟨t, h1, h2⟩⟩
    exact ⟨h0, key 0 h0⟩
  | succ i ih =>
    intro hi
    obtain ⟨h1, h2⟩ := ih (by omega)
    have h3 := h2 (by omega)
    have h0 : ∀ j, j < 6 → (¬ bm_lf lf pr (i + 1) j = 0 ↔ ∃ t, i + 1 ≤ t ∧ t < 4 ∧ j = q t) := by
      intro j hj
      have hqi := hq i (by omega)
      have e : bm_lf lf pr (i + 1) j = if j = q i then 0 else bm_lf lf pr i j := by
        show upd (bm_lf lf pr i) (bm_lst (bm_lf lf pr i) pr 6).toNatClampNeg 0 j = _
        rw [h3, nI_clamp (by omega)]
        rfl
      rw [e]
      by_cases hji : j = q i
      · rw [if_pos hji]
        refine ⟨fun z => absurd rfl z, fun ⟨t, t1, t2, t3⟩ => ?_⟩
        exfalso
        have h4 := hs i t (by omega) t2
        rw [← hji, ← t3] at h4
        rcases h4 with h4 | ⟨-, h4⟩ <;> omega
      · rw [if_neg hji, h1 j hj]
        refine ⟨fun ⟨t, t1, t2, t3⟩ => ⟨t, ?_, t2, t3⟩, fun ⟨t, t1, t2, t3⟩ => ⟨t, by omega, t2, t3⟩⟩
        by_cases hti : t = i
        · rw [hti] at t3; exact absurd t3 hji
        · omega
    exact ⟨h0, key (i + 1) h0⟩
end
