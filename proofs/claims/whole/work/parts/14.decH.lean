abbrev yQ_init : MethodName := { cls := "BlindMint$Proposal", name := "<init>", desc := "()V" }
abbrev cQ_init : ByteArray := prog_10_method_1_code
theorem dQ_init_0 : decode cQ_init 0 = .ok (.aload_n 0, 1) := by decide +kernel
theorem dQ_init_1 : decode cQ_init 1 = .ok (.invokespecial 3, 3) := by decide +kernel
theorem dQ_init_4 : decode cQ_init 4 = .ok (.aload_n 0, 1) := by decide +kernel
theorem dQ_init_5 : decode cQ_init 5 = .ok (.bipush 6, 2) := by decide +kernel
theorem dQ_init_7 : decode cQ_init 7 = .ok (.anewarray 9, 3) := by decide +kernel
theorem dQ_init_10 : decode cQ_init 10 = .ok (.putfield 11, 3) := by decide +kernel
theorem dQ_init_13 : decode cQ_init 13 = .ok (.aload_n 0, 1) := by decide +kernel
theorem dQ_init_14 : decode cQ_init 14 = .ok (.iconst 4, 1) := by decide +kernel
theorem dQ_init_15 : decode cQ_init 15 = .ok (.anewarray 9, 3) := by decide +kernel
theorem dQ_init_18 : decode cQ_init 18 = .ok (.putfield 17, 3) := by decide +kernel
theorem dQ_init_21 : decode cQ_init 21 = .ok (.aload_n 0, 1) := by decide +kernel
theorem dQ_init_22 : decode cQ_init 22 = .ok (.iconst 0, 1) := by decide +kernel
theorem dQ_init_23 : decode cQ_init 23 = .ok (.putfield 20, 3) := by decide +kernel
theorem dQ_init_26 : decode cQ_init 26 = .ok (.aload_n 0, 1) := by decide +kernel
theorem dQ_init_27 : decode cQ_init 27 = .ok (.iconst 0, 1) := by decide +kernel
theorem dQ_init_28 : decode cQ_init 28 = .ok (.putfield 24, 3) := by decide +kernel
theorem dQ_init_31 : decode cQ_init 31 = .ok (.iconst 0, 1) := by decide +kernel
theorem dQ_init_32 : decode cQ_init 32 = .ok (.istore_n 1, 1) := by decide +kernel
theorem dQ_init_33 : decode cQ_init 33 = .ok (.iload_n 1, 1) := by decide +kernel
theorem dQ_init_34 : decode cQ_init 34 = .ok (.bipush 6, 2) := by decide +kernel
theorem dQ_init_36 : decode cQ_init 36 = .ok (.if_icmp .ge 22, 3) := by decide +kernel
theorem dQ_init_39 : decode cQ_init 39 = .ok (.aload_n 0, 1) := by decide +kernel
theorem dQ_init_40 : decode cQ_init 40 = .ok (.getfield 11, 3) := by decide +kernel
theorem dQ_init_43 : decode cQ_init 43 = .ok (.iload_n 1, 1) := by decide +kernel
theorem dQ_init_44 : decode cQ_init 44 = .ok (.new 9, 3) := by decide +kernel
theorem dQ_init_47 : decode cQ_init 47 = .ok (.dup, 1) := by decide +kernel
theorem dQ_init_48 : decode cQ_init 48 = .ok (.invokespecial 27, 3) := by decide +kernel
theorem dQ_init_51 : decode cQ_init 51 = .ok (.aastore, 1) := by decide +kernel
theorem dQ_init_52 : decode cQ_init 52 = .ok (.iinc 1 1, 3) := by decide +kernel
theorem dQ_init_55 : decode cQ_init 55 = .ok (.goto (-22), 3) := by decide +kernel
theorem dQ_init_58 : decode cQ_init 58 = .ok (.return_, 1) := by decide +kernel
abbrev yC_init : MethodName := { cls := "BlindMint$Candidate", name := "<init>", desc := "()V" }
abbrev cC_init : ByteArray := prog_3_method_1_code
theorem dC_init_0 : decode cC_init 0 = .ok (.aload_n 0, 1) := by decide +kernel
theorem dC_init_1 : decode cC_init 1 = .ok (.invokespecial 1, 3) := by decide +kernel
theorem dC_init_4 : decode cC_init 4 = .ok (.return_, 1) := by decide +kernel
abbrev yA_init : MethodName := { cls := "BlindMint$Account", name := "<init>", desc := "()V" }
abbrev cA_init : ByteArray := prog_2_method_1_code
theorem dA_init_0 : decode cA_init 0 = .ok (.aload_n 0, 1) := by decide +kernel
theorem dA_init_1 : decode cA_init 1 = .ok (.invokespecial 3, 3) := by decide +kernel
theorem dA_init_4 : decode cA_init 4 = .ok (.aload_n 0, 1) := by decide +kernel
theorem dA_init_5 : decode cA_init 5 = .ok (.bipush 100, 2) := by decide +kernel
theorem dA_init_7 : decode cA_init 7 = .ok (.putfield 9, 3) := by decide +kernel
theorem dA_init_10 : decode cA_init 10 = .ok (.aload_n 0, 1) := by decide +kernel
theorem dA_init_11 : decode cA_init 11 = .ok (.bipush 8, 2) := by decide +kernel
theorem dA_init_13 : decode cA_init 13 = .ok (.anewarray 15, 3) := by decide +kernel
theorem dA_init_16 : decode cA_init 16 = .ok (.putfield 17, 3) := by decide +kernel
theorem dA_init_19 : decode cA_init 19 = .ok (.aload_n 0, 1) := by decide +kernel
theorem dA_init_20 : decode cA_init 20 = .ok (.iconst 0, 1) := by decide +kernel
theorem dA_init_21 : decode cA_init 21 = .ok (.putfield 21, 3) := by decide +kernel
theorem dA_init_24 : decode cA_init 24 = .ok (.return_, 1) := by decide +kernel
abbrev yP_denomination : MethodName := { cls := "BlindMint$Payment", name := "denomination", desc := "()J" }
abbrev cP_denomination : ByteArray := prog_9_method_3_code
theorem dP_denomination_0 : decode cP_denomination 0 = .ok (.aload_n 0, 1) := by decide +kernel
theorem dP_denomination_1 : decode cP_denomination 1 = .ok (.getfield 11, 3) := by decide +kernel
theorem dP_denomination_4 : decode cP_denomination 4 = .ok (.iconst 0, 1) := by decide +kernel
theorem dP_denomination_5 : decode cP_denomination 5 = .ok (.laload, 1) := by decide +kernel
theorem dP_denomination_6 : decode cP_denomination 6 = .ok (.lreturn, 1) := by decide +kernel
abbrev yP_readPairHashes : MethodName := { cls := "BlindMint$Payment", name := "readPairHashes", desc := "([J)V" }
abbrev cP_readPairHashes : ByteArray := prog_9_method_7_code
theorem dP_readPairHashes_0 : decode cP_readPairHashes 0 = .ok (.aload_n 0, 1) := by decide +kernel
theorem dP_readPairHashes_1 : decode cP_readPairHashes 1 = .ok (.invokevirtual 25, 3) := by decide +kernel
theorem dP_readPairHashes_4 : decode cP_readPairHashes 4 = .ok (.lstore_n 2, 1) := by decide +kernel
theorem dP_readPairHashes_5 : decode cP_readPairHashes 5 = .ok (.iconst 0, 1) := by decide +kernel
theorem dP_readPairHashes_6 : decode cP_readPairHashes 6 = .ok (.istore 4, 2) := by decide +kernel
theorem dP_readPairHashes_8 : decode cP_readPairHashes 8 = .ok (.iload 4, 2) := by decide +kernel
theorem dP_readPairHashes_10 : decode cP_readPairHashes 10 = .ok (.iconst 4, 1) := by decide +kernel
theorem dP_readPairHashes_11 : decode cP_readPairHashes 11 = .ok (.if_icmp .ge 78, 3) := by decide +kernel
theorem dP_readPairHashes_14 : decode cP_readPairHashes 14 = .ok (.iload 4, 2) := by decide +kernel
theorem dP_readPairHashes_16 : decode cP_readPairHashes 16 = .ok (.invokestatic 39, 3) := by decide +kernel
theorem dP_readPairHashes_19 : decode cP_readPairHashes 19 = .ok (.istore 5, 2) := by decide +kernel
theorem dP_readPairHashes_21 : decode cP_readPairHashes 21 = .ok (.aload_n 0, 1) := by decide +kernel
theorem dP_readPairHashes_22 : decode cP_readPairHashes 22 = .ok (.getfield 11, 3) := by decide +kernel
theorem dP_readPairHashes_25 : decode cP_readPairHashes 25 = .ok (.iload 5, 2) := by decide +kernel
theorem dP_readPairHashes_27 : decode cP_readPairHashes 27 = .ok (.laload, 1) := by decide +kernel
theorem dP_readPairHashes_28 : decode cP_readPairHashes 28 = .ok (.aload_n 0, 1) := by decide +kernel
theorem dP_readPairHashes_29 : decode cP_readPairHashes 29 = .ok (.getfield 11, 3) := by decide +kernel
theorem dP_readPairHashes_32 : decode cP_readPairHashes 32 = .ok (.iload 5, 2) := by decide +kernel
theorem dP_readPairHashes_34 : decode cP_readPairHashes 34 = .ok (.iconst 1, 1) := by decide +kernel
theorem dP_readPairHashes_35 : decode cP_readPairHashes 35 = .ok (.iadd, 1) := by decide +kernel
theorem dP_readPairHashes_36 : decode cP_readPairHashes 36 = .ok (.laload, 1) := by decide +kernel
theorem dP_readPairHashes_37 : decode cP_readPairHashes 37 = .ok (.invokestatic 61, 3) := by decide +kernel
theorem dP_readPairHashes_40 : decode cP_readPairHashes 40 = .ok (.lstore 6, 2) := by decide +kernel
theorem dP_readPairHashes_42 : decode cP_readPairHashes 42 = .ok (.aload_n 0, 1) := by decide +kernel
theorem dP_readPairHashes_43 : decode cP_readPairHashes 43 = .ok (.getfield 11, 3) := by decide +kernel
theorem dP_readPairHashes_46 : decode cP_readPairHashes 46 = .ok (.iload 5, 2) := by decide +kernel
theorem dP_readPairHashes_48 : decode cP_readPairHashes 48 = .ok (.iconst 2, 1) := by decide +kernel
theorem dP_readPairHashes_49 : decode cP_readPairHashes 49 = .ok (.iadd, 1) := by decide +kernel
theorem dP_readPairHashes_50 : decode cP_readPairHashes 50 = .ok (.laload, 1) := by decide +kernel
theorem dP_readPairHashes_51 : decode cP_readPairHashes 51 = .ok (.lstore 8, 2) := by decide +kernel
theorem dP_readPairHashes_53 : decode cP_readPairHashes 53 = .ok (.aload_n 1, 1) := by decide +kernel
theorem dP_readPairHashes_54 : decode cP_readPairHashes 54 = .ok (.iload 4, 2) := by decide +kernel
theorem dP_readPairHashes_56 : decode cP_readPairHashes 56 = .ok (.lload_n 2, 1) := by decide +kernel
theorem dP_readPairHashes_57 : decode cP_readPairHashes 57 = .ok (.iload 4, 2) := by decide +kernel
theorem dP_readPairHashes_59 : decode cP_readPairHashes 59 = .ok (.invokestatic 29, 3) := by decide +kernel
theorem dP_readPairHashes_62 : decode cP_readPairHashes 62 = .ok (.ifCond .eq 13, 3) := by decide +kernel
theorem dP_readPairHashes_65 : decode cP_readPairHashes 65 = .ok (.lload 6, 2) := by decide +kernel
theorem dP_readPairHashes_67 : decode cP_readPairHashes 67 = .ok (.lload 8, 2) := by decide +kernel
theorem dP_readPairHashes_69 : decode cP_readPairHashes 69 = .ok (.invokestatic 61, 3) := by decide +kernel
theorem dP_readPairHashes_72 : decode cP_readPairHashes 72 = .ok (.goto 10, 3) := by decide +kernel
theorem dP_readPairHashes_75 : decode cP_readPairHashes 75 = .ok (.lload 8, 2) := by decide +kernel
theorem dP_readPairHashes_77 : decode cP_readPairHashes 77 = .ok (.lload 6, 2) := by decide +kernel
theorem dP_readPairHashes_79 : decode cP_readPairHashes 79 = .ok (.invokestatic 61, 3) := by decide +kernel
theorem dP_readPairHashes_82 : decode cP_readPairHashes 82 = .ok (.lastore, 1) := by decide +kernel
theorem dP_readPairHashes_83 : decode cP_readPairHashes 83 = .ok (.iinc 4 1, 3) := by decide +kernel
theorem dP_readPairHashes_86 : decode cP_readPairHashes 86 = .ok (.goto (-78), 3) := by decide +kernel
theorem dP_readPairHashes_89 : decode cP_readPairHashes 89 = .ok (.return_, 1) := by decide +kernel
abbrev yP_challenge : MethodName := { cls := "BlindMint$Payment", name := "challenge", desc := "()J" }
abbrev cP_challenge : ByteArray := prog_9_method_5_code
theorem dP_challenge_0 : decode cP_challenge 0 = .ok (.ldc2_w 51, 3) := by decide +kernel
theorem dP_challenge_3 : decode cP_challenge 3 = .ok (.aload_n 0, 1) := by decide +kernel
theorem dP_challenge_4 : decode cP_challenge 4 = .ok (.getfield 11, 3) := by decide +kernel
theorem dP_challenge_7 : decode cP_challenge 7 = .ok (.iconst 2, 1) := by decide +kernel
theorem dP_challenge_8 : decode cP_challenge 8 = .ok (.laload, 1) := by decide +kernel
theorem dP_challenge_9 : decode cP_challenge 9 = .ok (.invokestatic 53, 3) := by decide +kernel
theorem dP_challenge_12 : decode cP_challenge 12 = .ok (.lstore_n 1, 1) := by decide +kernel
theorem dP_challenge_13 : decode cP_challenge 13 = .ok (.lload_n 1, 1) := by decide +kernel
theorem dP_challenge_14 : decode cP_challenge 14 = .ok (.aload_n 0, 1) := by decide +kernel
theorem dP_challenge_15 : decode cP_challenge 15 = .ok (.getfield 11, 3) := by decide +kernel
theorem dP_challenge_18 : decode cP_challenge 18 = .ok (.iconst 3, 1) := by decide +kernel
theorem dP_challenge_19 : decode cP_challenge 19 = .ok (.laload, 1) := by decide +kernel
theorem dP_challenge_20 : decode cP_challenge 20 = .ok (.invokestatic 53, 3) := by decide +kernel
theorem dP_challenge_23 : decode cP_challenge 23 = .ok (.aload_n 0, 1) := by decide +kernel
theorem dP_challenge_24 : decode cP_challenge 24 = .ok (.getfield 11, 3) := by decide +kernel
theorem dP_challenge_27 : decode cP_challenge 27 = .ok (.iconst 1, 1) := by decide +kernel
theorem dP_challenge_28 : decode cP_challenge 28 = .ok (.laload, 1) := by decide +kernel
theorem dP_challenge_29 : decode cP_challenge 29 = .ok (.invokestatic 53, 3) := by decide +kernel
theorem dP_challenge_32 : decode cP_challenge 32 = .ok (.invokestatic 57, 3) := by decide +kernel
theorem dP_challenge_35 : decode cP_challenge 35 = .ok (.lreturn, 1) := by decide +kernel
abbrev yH_step : MethodName := { cls := "BlindMint$Hash", name := "step", desc := "(JJ)J" }
abbrev cH_step : ByteArray := prog_8_method_2_code
theorem dH_step_0 : decode cH_step 0 = .ok (.lload_n 0, 1) := by decide +kernel
theorem dH_step_1 : decode cH_step 1 = .ok (.lload_n 2, 1) := by decide +kernel
theorem dH_step_2 : decode cH_step 2 = .ok (.lxor, 1) := by decide +kernel
theorem dH_step_3 : decode cH_step 3 = .ok (.ldc2_w 9, 3) := by decide +kernel
theorem dH_step_6 : decode cH_step 6 = .ok (.lmul, 1) := by decide +kernel
theorem dH_step_7 : decode cH_step 7 = .ok (.ldc2_w 11, 3) := by decide +kernel
theorem dH_step_10 : decode cH_step 10 = .ok (.ladd, 1) := by decide +kernel
theorem dH_step_11 : decode cH_step 11 = .ok (.lstore 4, 2) := by decide +kernel
theorem dH_step_13 : decode cH_step 13 = .ok (.lload 4, 2) := by decide +kernel
theorem dH_step_15 : decode cH_step 15 = .ok (.lload 4, 2) := by decide +kernel
theorem dH_step_17 : decode cH_step 17 = .ok (.bipush 29, 2) := by decide +kernel
theorem dH_step_19 : decode cH_step 19 = .ok (.lushr, 1) := by decide +kernel
theorem dH_step_20 : decode cH_step 20 = .ok (.lxor, 1) := by decide +kernel
theorem dH_step_21 : decode cH_step 21 = .ok (.lreturn, 1) := by decide +kernel
abbrev yH_end : MethodName := { cls := "BlindMint$Hash", name := "end", desc := "(J)J" }
abbrev cH_end : ByteArray := prog_8_method_3_code
theorem dH_end_0 : decode cH_end 0 = .ok (.lload_n 0, 1) := by decide +kernel
theorem dH_end_1 : decode cH_end 1 = .ok (.ldc2_w 13, 3) := by decide +kernel
theorem dH_end_4 : decode cH_end 4 = .ok (.land, 1) := by decide +kernel
theorem dH_end_5 : decode cH_end 5 = .ok (.lreturn, 1) := by decide +kernel
abbrev yP_firstOfPart : MethodName := { cls := "BlindMint$Payment", name := "firstOfPart", desc := "(I)I" }
abbrev cP_firstOfPart : ByteArray := prog_9_method_8_code
theorem dP_firstOfPart_0 : decode cP_firstOfPart 0 = .ok (.iconst 4, 1) := by decide +kernel
theorem dP_firstOfPart_1 : decode cP_firstOfPart 1 = .ok (.iload_n 0, 1) := by decide +kernel
theorem dP_firstOfPart_2 : decode cP_firstOfPart 2 = .ok (.iconst 3, 1) := by decide +kernel
theorem dP_firstOfPart_3 : decode cP_firstOfPart 3 = .ok (.imul, 1) := by decide +kernel
theorem dP_firstOfPart_4 : decode cP_firstOfPart 4 = .ok (.iadd, 1) := by decide +kernel
theorem dP_firstOfPart_5 : decode cP_firstOfPart 5 = .ok (.ireturn, 1) := by decide +kernel
abbrev yH_of : MethodName := { cls := "BlindMint$Hash", name := "of", desc := "(JJ)J" }
abbrev cH_of : ByteArray := prog_8_method_4_code
theorem dH_of_0 : decode cH_of 0 = .ok (.ldc2_w 15, 3) := by decide +kernel
theorem dH_of_3 : decode cH_of 3 = .ok (.lload_n 0, 1) := by decide +kernel
theorem dH_of_4 : decode cH_of 4 = .ok (.invokestatic 17, 3) := by decide +kernel
theorem dH_of_7 : decode cH_of 7 = .ok (.lload_n 2, 1) := by decide +kernel
theorem dH_of_8 : decode cH_of 8 = .ok (.invokestatic 17, 3) := by decide +kernel
theorem dH_of_11 : decode cH_of 11 = .ok (.invokestatic 21, 3) := by decide +kernel
theorem dH_of_14 : decode cH_of 14 = .ok (.lreturn, 1) := by decide +kernel
abbrev yH_ofCoin : MethodName := { cls := "BlindMint$Hash", name := "ofCoin", desc := "(J[J)J" }
abbrev cH_ofCoin : ByteArray := prog_8_method_5_code
theorem dH_ofCoin_0 : decode cH_ofCoin 0 = .ok (.ldc2_w 15, 3) := by decide +kernel
theorem dH_ofCoin_3 : decode cH_ofCoin 3 = .ok (.lload_n 0, 1) := by decide +kernel
theorem dH_ofCoin_4 : decode cH_ofCoin 4 = .ok (.invokestatic 17, 3) := by decide +kernel
theorem dH_ofCoin_7 : decode cH_ofCoin 7 = .ok (.lstore_n 3, 1) := by decide +kernel
theorem dH_ofCoin_8 : decode cH_ofCoin 8 = .ok (.aload_n 2, 1) := by decide +kernel
theorem dH_ofCoin_9 : decode cH_ofCoin 9 = .ok (.astore 5, 2) := by decide +kernel
theorem dH_ofCoin_11 : decode cH_ofCoin 11 = .ok (.aload 5, 2) := by decide +kernel
theorem dH_ofCoin_13 : decode cH_ofCoin 13 = .ok (.arraylength, 1) := by decide +kernel
theorem dH_ofCoin_14 : decode cH_ofCoin 14 = .ok (.istore 6, 2) := by decide +kernel
theorem dH_ofCoin_16 : decode cH_ofCoin 16 = .ok (.iconst 0, 1) := by decide +kernel
theorem dH_ofCoin_17 : decode cH_ofCoin 17 = .ok (.istore 7, 2) := by decide +kernel
theorem dH_ofCoin_19 : decode cH_ofCoin 19 = .ok (.iload 7, 2) := by decide +kernel
theorem dH_ofCoin_21 : decode cH_ofCoin 21 = .ok (.iload 6, 2) := by decide +kernel
theorem dH_ofCoin_23 : decode cH_ofCoin 23 = .ok (.if_icmp .ge 23, 3) := by decide +kernel
theorem dH_ofCoin_26 : decode cH_ofCoin 26 = .ok (.aload 5, 2) := by decide +kernel
theorem dH_ofCoin_28 : decode cH_ofCoin 28 = .ok (.iload 7, 2) := by decide +kernel
theorem dH_ofCoin_30 : decode cH_ofCoin 30 = .ok (.laload, 1) := by decide +kernel
theorem dH_ofCoin_31 : decode cH_ofCoin 31 = .ok (.lstore 8, 2) := by decide +kernel
theorem dH_ofCoin_33 : decode cH_ofCoin 33 = .ok (.lload_n 3, 1) := by decide +kernel
theorem dH_ofCoin_34 : decode cH_ofCoin 34 = .ok (.lload 8, 2) := by decide +kernel
theorem dH_ofCoin_36 : decode cH_ofCoin 36 = .ok (.invokestatic 17, 3) := by decide +kernel
theorem dH_ofCoin_39 : decode cH_ofCoin 39 = .ok (.lstore_n 3, 1) := by decide +kernel
theorem dH_ofCoin_40 : decode cH_ofCoin 40 = .ok (.iinc 7 1, 3) := by decide +kernel
theorem dH_ofCoin_43 : decode cH_ofCoin 43 = .ok (.goto (-24), 3) := by decide +kernel
theorem dH_ofCoin_46 : decode cH_ofCoin 46 = .ok (.lload_n 3, 1) := by decide +kernel
theorem dH_ofCoin_47 : decode cH_ofCoin 47 = .ok (.invokestatic 21, 3) := by decide +kernel
theorem dH_ofCoin_50 : decode cH_ofCoin 50 = .ok (.lreturn, 1) := by decide +kernel
abbrev yP_signatureNumber : MethodName := { cls := "BlindMint$Payment", name := "signatureNumber", desc := "()J" }
abbrev cP_signatureNumber : ByteArray := prog_9_method_4_code
theorem dP_signatureNumber_0 : decode cP_signatureNumber 0 = .ok (.aload_n 0, 1) := by decide +kernel
theorem dP_signatureNumber_1 : decode cP_signatureNumber 1 = .ok (.getfield 11, 3) := by decide +kernel
theorem dP_signatureNumber_4 : decode cP_signatureNumber 4 = .ok (.iconst 1, 1) := by decide +kernel
theorem dP_signatureNumber_5 : decode cP_signatureNumber 5 = .ok (.laload, 1) := by decide +kernel
theorem dP_signatureNumber_6 : decode cP_signatureNumber 6 = .ok (.lreturn, 1) := by decide +kernel
abbrev yD_isSignature : MethodName := { cls := "BlindMint$Denomination", name := "isSignature", desc := "(JJ)Z" }
abbrev cD_isSignature : ByteArray := prog_6_method_8_code
theorem dD_isSignature_0 : decode cD_isSignature 0 = .ok (.lload_n 1, 1) := by decide +kernel
theorem dD_isSignature_1 : decode cD_isSignature 1 = .ok (.lconst 0, 1) := by decide +kernel
theorem dD_isSignature_2 : decode cD_isSignature 2 = .ok (.lcmp, 1) := by decide +kernel
theorem dD_isSignature_3 : decode cD_isSignature 3 = .ok (.ifCond .lt 63, 3) := by decide +kernel
theorem dD_isSignature_6 : decode cD_isSignature 6 = .ok (.lload_n 1, 1) := by decide +kernel
theorem dD_isSignature_7 : decode cD_isSignature 7 = .ok (.aload_n 0, 1) := by decide +kernel
theorem dD_isSignature_8 : decode cD_isSignature 8 = .ok (.getfield 36, 3) := by decide +kernel
theorem dD_isSignature_11 : decode cD_isSignature 11 = .ok (.aload_n 0, 1) := by decide +kernel
theorem dD_isSignature_12 : decode cD_isSignature 12 = .ok (.getfield 40, 3) := by decide +kernel
theorem dD_isSignature_15 : decode cD_isSignature 15 = .ok (.lmul, 1) := by decide +kernel
theorem dD_isSignature_16 : decode cD_isSignature 16 = .ok (.lcmp, 1) := by decide +kernel
theorem dD_isSignature_17 : decode cD_isSignature 17 = .ok (.ifCond .ge 49, 3) := by decide +kernel
theorem dD_isSignature_20 : decode cD_isSignature 20 = .ok (.lload_n 1, 1) := by decide +kernel
theorem dD_isSignature_21 : decode cD_isSignature 21 = .ok (.ldc2_w 43, 3) := by decide +kernel
theorem dD_isSignature_24 : decode cD_isSignature 24 = .ok (.aload_n 0, 1) := by decide +kernel
theorem dD_isSignature_25 : decode cD_isSignature 25 = .ok (.getfield 36, 3) := by decide +kernel
theorem dD_isSignature_28 : decode cD_isSignature 28 = .ok (.invokestatic 45, 3) := by decide +kernel
theorem dD_isSignature_31 : decode cD_isSignature 31 = .ok (.lload_n 3, 1) := by decide +kernel
theorem dD_isSignature_32 : decode cD_isSignature 32 = .ok (.aload_n 0, 1) := by decide +kernel
theorem dD_isSignature_33 : decode cD_isSignature 33 = .ok (.getfield 36, 3) := by decide +kernel
theorem dD_isSignature_36 : decode cD_isSignature 36 = .ok (.lrem, 1) := by decide +kernel
theorem dD_isSignature_37 : decode cD_isSignature 37 = .ok (.lcmp, 1) := by decide +kernel
theorem dD_isSignature_38 : decode cD_isSignature 38 = .ok (.ifCond .ne 28, 3) := by decide +kernel
theorem dD_isSignature_41 : decode cD_isSignature 41 = .ok (.lload_n 1, 1) := by decide +kernel
theorem dD_isSignature_42 : decode cD_isSignature 42 = .ok (.ldc2_w 43, 3) := by decide +kernel
theorem dD_isSignature_45 : decode cD_isSignature 45 = .ok (.aload_n 0, 1) := by decide +kernel
theorem dD_isSignature_46 : decode cD_isSignature 46 = .ok (.getfield 40, 3) := by decide +kernel
theorem dD_isSignature_49 : decode cD_isSignature 49 = .ok (.invokestatic 45, 3) := by decide +kernel
theorem dD_isSignature_52 : decode cD_isSignature 52 = .ok (.lload_n 3, 1) := by decide +kernel
theorem dD_isSignature_53 : decode cD_isSignature 53 = .ok (.aload_n 0, 1) := by decide +kernel
theorem dD_isSignature_54 : decode cD_isSignature 54 = .ok (.getfield 40, 3) := by decide +kernel
theorem dD_isSignature_57 : decode cD_isSignature 57 = .ok (.lrem, 1) := by decide +kernel
theorem dD_isSignature_58 : decode cD_isSignature 58 = .ok (.lcmp, 1) := by decide +kernel
theorem dD_isSignature_59 : decode cD_isSignature 59 = .ok (.ifCond .ne 7, 3) := by decide +kernel
theorem dD_isSignature_62 : decode cD_isSignature 62 = .ok (.iconst 1, 1) := by decide +kernel
theorem dD_isSignature_63 : decode cD_isSignature 63 = .ok (.goto 4, 3) := by decide +kernel
theorem dD_isSignature_66 : decode cD_isSignature 66 = .ok (.iconst 0, 1) := by decide +kernel
theorem dD_isSignature_67 : decode cD_isSignature 67 = .ok (.ireturn, 1) := by decide +kernel
abbrev yF_power : MethodName := { cls := "BlindMint$Field", name := "power", desc := "(JJJ)J" }
abbrev cF_power : ByteArray := prog_7_method_3_code
theorem dF_power_0 : decode cF_power 0 = .ok (.lload_n 0, 1) := by decide +kernel
theorem dF_power_1 : decode cF_power 1 = .ok (.lload 4, 2) := by decide +kernel
theorem dF_power_3 : decode cF_power 3 = .ok (.lrem, 1) := by decide +kernel
theorem dF_power_4 : decode cF_power 4 = .ok (.lstore 6, 2) := by decide +kernel
theorem dF_power_6 : decode cF_power 6 = .ok (.lconst 1, 1) := by decide +kernel
theorem dF_power_7 : decode cF_power 7 = .ok (.lstore 8, 2) := by decide +kernel
theorem dF_power_9 : decode cF_power 9 = .ok (.iconst 0, 1) := by decide +kernel
theorem dF_power_10 : decode cF_power 10 = .ok (.istore 10, 2) := by decide +kernel
theorem dF_power_12 : decode cF_power 12 = .ok (.iload 10, 2) := by decide +kernel
theorem dF_power_14 : decode cF_power 14 = .ok (.bipush 30, 2) := by decide +kernel
theorem dF_power_16 : decode cF_power 16 = .ok (.if_icmp .ge 38, 3) := by decide +kernel
theorem dF_power_19 : decode cF_power 19 = .ok (.lload_n 2, 1) := by decide +kernel
theorem dF_power_20 : decode cF_power 20 = .ok (.iload 10, 2) := by decide +kernel
theorem dF_power_22 : decode cF_power 22 = .ok (.invokestatic 9, 3) := by decide +kernel
theorem dF_power_25 : decode cF_power 25 = .ok (.ifCond .eq 13, 3) := by decide +kernel
theorem dF_power_28 : decode cF_power 28 = .ok (.lload 8, 2) := by decide +kernel
theorem dF_power_30 : decode cF_power 30 = .ok (.lload 6, 2) := by decide +kernel
theorem dF_power_32 : decode cF_power 32 = .ok (.lmul, 1) := by decide +kernel
theorem dF_power_33 : decode cF_power 33 = .ok (.lload 4, 2) := by decide +kernel
theorem dF_power_35 : decode cF_power 35 = .ok (.lrem, 1) := by decide +kernel
theorem dF_power_36 : decode cF_power 36 = .ok (.lstore 8, 2) := by decide +kernel
theorem dF_power_38 : decode cF_power 38 = .ok (.lload 6, 2) := by decide +kernel
theorem dF_power_40 : decode cF_power 40 = .ok (.lload 6, 2) := by decide +kernel
theorem dF_power_42 : decode cF_power 42 = .ok (.lmul, 1) := by decide +kernel
theorem dF_power_43 : decode cF_power 43 = .ok (.lload 4, 2) := by decide +kernel
theorem dF_power_45 : decode cF_power 45 = .ok (.lrem, 1) := by decide +kernel
theorem dF_power_46 : decode cF_power 46 = .ok (.lstore 6, 2) := by decide +kernel
theorem dF_power_48 : decode cF_power 48 = .ok (.iinc 10 1, 3) := by decide +kernel
theorem dF_power_51 : decode cF_power 51 = .ok (.goto (-39), 3) := by decide +kernel
theorem dF_power_54 : decode cF_power 54 = .ok (.lload 8, 2) := by decide +kernel
theorem dF_power_56 : decode cF_power 56 = .ok (.lreturn, 1) := by decide +kernel
abbrev yA_isWalletFull : MethodName := { cls := "BlindMint$Account", name := "isWalletFull", desc := "()Z" }
abbrev cA_isWalletFull : ByteArray := prog_2_method_2_code
theorem dA_isWalletFull_0 : decode cA_isWalletFull 0 = .ok (.aload_n 0, 1) := by decide +kernel
theorem dA_isWalletFull_1 : decode cA_isWalletFull 1 = .ok (.getfield 21, 3) := by decide +kernel
theorem dA_isWalletFull_4 : decode cA_isWalletFull 4 = .ok (.bipush 8, 2) := by decide +kernel
theorem dA_isWalletFull_6 : decode cA_isWalletFull 6 = .ok (.if_icmp .lt 7, 3) := by decide +kernel
theorem dA_isWalletFull_9 : decode cA_isWalletFull 9 = .ok (.iconst 1, 1) := by decide +kernel
theorem dA_isWalletFull_10 : decode cA_isWalletFull 10 = .ok (.goto 4, 3) := by decide +kernel
theorem dA_isWalletFull_13 : decode cA_isWalletFull 13 = .ok (.iconst 0, 1) := by decide +kernel
theorem dA_isWalletFull_14 : decode cA_isWalletFull 14 = .ok (.ireturn, 1) := by decide +kernel
abbrev yQ_make : MethodName := { cls := "BlindMint$Proposal", name := "make", desc := "(JJI)V" }
abbrev cQ_make : ByteArray := prog_10_method_2_code
theorem dQ_make_0 : decode cQ_make 0 = .ok (.iconst 0, 1) := by decide +kernel
theorem dQ_make_1 : decode cQ_make 1 = .ok (.istore 6, 2) := by decide +kernel
theorem dQ_make_3 : decode cQ_make 3 = .ok (.iload 6, 2) := by decide +kernel
theorem dQ_make_5 : decode cQ_make 5 = .ok (.bipush 6, 2) := by decide +kernel
theorem dQ_make_7 : decode cQ_make 7 = .ok (.if_icmp .ge 32, 3) := by decide +kernel
theorem dQ_make_10 : decode cQ_make 10 = .ok (.aload_n 0, 1) := by decide +kernel
theorem dQ_make_11 : decode cQ_make 11 = .ok (.getfield 11, 3) := by decide +kernel
theorem dQ_make_14 : decode cQ_make 14 = .ok (.iload 6, 2) := by decide +kernel
theorem dQ_make_16 : decode cQ_make 16 = .ok (.aaload, 1) := by decide +kernel
theorem dQ_make_17 : decode cQ_make 17 = .ok (.lload_n 1, 1) := by decide +kernel
theorem dQ_make_18 : decode cQ_make 18 = .ok (.iload 6, 2) := by decide +kernel
theorem dQ_make_20 : decode cQ_make 20 = .ok (.lload_n 3, 1) := by decide +kernel
theorem dQ_make_21 : decode cQ_make 21 = .ok (.iload 5, 2) := by decide +kernel
theorem dQ_make_23 : decode cQ_make 23 = .ok (.iload 6, 2) := by decide +kernel
theorem dQ_make_25 : decode cQ_make 25 = .ok (.ishr, 1) := by decide +kernel
theorem dQ_make_26 : decode cQ_make 26 = .ok (.iconst 1, 1) := by decide +kernel
theorem dQ_make_27 : decode cQ_make 27 = .ok (.iand, 1) := by decide +kernel
theorem dQ_make_28 : decode cQ_make 28 = .ok (.i2l, 1) := by decide +kernel
theorem dQ_make_29 : decode cQ_make 29 = .ok (.lxor, 1) := by decide +kernel
theorem dQ_make_30 : decode cQ_make 30 = .ok (.invokevirtual 28, 3) := by decide +kernel
theorem dQ_make_33 : decode cQ_make 33 = .ok (.iinc 6 1, 3) := by decide +kernel
theorem dQ_make_36 : decode cQ_make 36 = .ok (.goto (-33), 3) := by decide +kernel
theorem dQ_make_39 : decode cQ_make 39 = .ok (.aload_n 0, 1) := by decide +kernel
theorem dQ_make_40 : decode cQ_make 40 = .ok (.invokevirtual 32, 3) := by decide +kernel
theorem dQ_make_43 : decode cQ_make 43 = .ok (.aload_n 0, 1) := by decide +kernel
theorem dQ_make_44 : decode cQ_make 44 = .ok (.invokevirtual 35, 3) := by decide +kernel
theorem dQ_make_47 : decode cQ_make 47 = .ok (.return_, 1) := by decide +kernel
abbrev yC_make : MethodName := { cls := "BlindMint$Candidate", name := "make", desc := "(JIJ)V" }
abbrev cC_make : ByteArray := prog_3_method_2_code
theorem dC_make_0 : decode cC_make 0 = .ok (.aload_n 0, 1) := by decide +kernel
theorem dC_make_1 : decode cC_make 1 = .ok (.lload_n 1, 1) := by decide +kernel
theorem dC_make_2 : decode cC_make 2 = .ok (.iconst 3, 1) := by decide +kernel
theorem dC_make_3 : decode cC_make 3 = .ok (.iload_n 3, 1) := by decide +kernel
theorem dC_make_4 : decode cC_make 4 = .ok (.imul, 1) := by decide +kernel
theorem dC_make_5 : decode cC_make 5 = .ok (.i2l, 1) := by decide +kernel
theorem dC_make_6 : decode cC_make 6 = .ok (.invokestatic 7, 3) := by decide +kernel
theorem dC_make_9 : decode cC_make 9 = .ok (.putfield 13, 3) := by decide +kernel
theorem dC_make_12 : decode cC_make 12 = .ok (.aload_n 0, 1) := by decide +kernel
theorem dC_make_13 : decode cC_make 13 = .ok (.lload_n 1, 1) := by decide +kernel
theorem dC_make_14 : decode cC_make 14 = .ok (.iconst 3, 1) := by decide +kernel
theorem dC_make_15 : decode cC_make 15 = .ok (.iload_n 3, 1) := by decide +kernel
theorem dC_make_16 : decode cC_make 16 = .ok (.imul, 1) := by decide +kernel
theorem dC_make_17 : decode cC_make 17 = .ok (.iconst 1, 1) := by decide +kernel
theorem dC_make_18 : decode cC_make 18 = .ok (.iadd, 1) := by decide +kernel
theorem dC_make_19 : decode cC_make 19 = .ok (.i2l, 1) := by decide +kernel
theorem dC_make_20 : decode cC_make 20 = .ok (.invokestatic 7, 3) := by decide +kernel
theorem dC_make_23 : decode cC_make 23 = .ok (.putfield 19, 3) := by decide +kernel
theorem dC_make_26 : decode cC_make 26 = .ok (.aload_n 0, 1) := by decide +kernel
theorem dC_make_27 : decode cC_make 27 = .ok (.lload_n 1, 1) := by decide +kernel
theorem dC_make_28 : decode cC_make 28 = .ok (.iconst 3, 1) := by decide +kernel
theorem dC_make_29 : decode cC_make 29 = .ok (.iload_n 3, 1) := by decide +kernel
theorem dC_make_30 : decode cC_make 30 = .ok (.imul, 1) := by decide +kernel
theorem dC_make_31 : decode cC_make 31 = .ok (.iconst 2, 1) := by decide +kernel
theorem dC_make_32 : decode cC_make 32 = .ok (.iadd, 1) := by decide +kernel
theorem dC_make_33 : decode cC_make 33 = .ok (.i2l, 1) := by decide +kernel
theorem dC_make_34 : decode cC_make 34 = .ok (.invokestatic 7, 3) := by decide +kernel
theorem dC_make_37 : decode cC_make 37 = .ok (.putfield 22, 3) := by decide +kernel
theorem dC_make_40 : decode cC_make 40 = .ok (.aload_n 0, 1) := by decide +kernel
theorem dC_make_41 : decode cC_make 41 = .ok (.aload_n 0, 1) := by decide +kernel
theorem dC_make_42 : decode cC_make 42 = .ok (.getfield 13, 3) := by decide +kernel
theorem dC_make_45 : decode cC_make 45 = .ok (.lload 4, 2) := by decide +kernel
theorem dC_make_47 : decode cC_make 47 = .ok (.lxor, 1) := by decide +kernel
theorem dC_make_48 : decode cC_make 48 = .ok (.putfield 25, 3) := by decide +kernel
theorem dC_make_51 : decode cC_make 51 = .ok (.aload_n 0, 1) := by decide +kernel
theorem dC_make_52 : decode cC_make 52 = .ok (.aload_n 0, 1) := by decide +kernel
theorem dC_make_53 : decode cC_make 53 = .ok (.getfield 13, 3) := by decide +kernel
theorem dC_make_56 : decode cC_make 56 = .ok (.aload_n 0, 1) := by decide +kernel
theorem dC_make_57 : decode cC_make 57 = .ok (.getfield 19, 3) := by decide +kernel
theorem dC_make_60 : decode cC_make 60 = .ok (.invokestatic 7, 3) := by decide +kernel
theorem dC_make_63 : decode cC_make 63 = .ok (.putfield 28, 3) := by decide +kernel
theorem dC_make_66 : decode cC_make 66 = .ok (.aload_n 0, 1) := by decide +kernel
theorem dC_make_67 : decode cC_make 67 = .ok (.aload_n 0, 1) := by decide +kernel
theorem dC_make_68 : decode cC_make 68 = .ok (.getfield 25, 3) := by decide +kernel
theorem dC_make_71 : decode cC_make 71 = .ok (.aload_n 0, 1) := by decide +kernel
theorem dC_make_72 : decode cC_make 72 = .ok (.getfield 22, 3) := by decide +kernel
theorem dC_make_75 : decode cC_make 75 = .ok (.invokestatic 7, 3) := by decide +kernel
theorem dC_make_78 : decode cC_make 78 = .ok (.putfield 31, 3) := by decide +kernel
theorem dC_make_81 : decode cC_make 81 = .ok (.aload_n 0, 1) := by decide +kernel
theorem dC_make_82 : decode cC_make 82 = .ok (.aload_n 0, 1) := by decide +kernel
theorem dC_make_83 : decode cC_make 83 = .ok (.getfield 28, 3) := by decide +kernel
theorem dC_make_86 : decode cC_make 86 = .ok (.aload_n 0, 1) := by decide +kernel
theorem dC_make_87 : decode cC_make 87 = .ok (.getfield 31, 3) := by decide +kernel
theorem dC_make_90 : decode cC_make 90 = .ok (.invokestatic 7, 3) := by decide +kernel
theorem dC_make_93 : decode cC_make 93 = .ok (.putfield 34, 3) := by decide +kernel
theorem dC_make_96 : decode cC_make 96 = .ok (.return_, 1) := by decide +kernel
abbrev yQ_open : MethodName := { cls := "BlindMint$Proposal", name := "open", desc := "()V" }
abbrev cQ_open : ByteArray := prog_10_method_5_code
theorem dQ_open_0 : decode cQ_open 0 = .ok (.ldc2_w 48, 3) := by decide +kernel
theorem dQ_open_3 : decode cQ_open 3 = .ok (.lstore_n 1, 1) := by decide +kernel
theorem dQ_open_4 : decode cQ_open 4 = .ok (.iconst 0, 1) := by decide +kernel
theorem dQ_open_5 : decode cQ_open 5 = .ok (.istore_n 3, 1) := by decide +kernel
theorem dQ_open_6 : decode cQ_open 6 = .ok (.iload_n 3, 1) := by decide +kernel
theorem dQ_open_7 : decode cQ_open 7 = .ok (.bipush 6, 2) := by decide +kernel
theorem dQ_open_9 : decode cQ_open 9 = .ok (.if_icmp .ge 23, 3) := by decide +kernel
theorem dQ_open_12 : decode cQ_open 12 = .ok (.lload_n 1, 1) := by decide +kernel
theorem dQ_open_13 : decode cQ_open 13 = .ok (.aload_n 0, 1) := by decide +kernel
theorem dQ_open_14 : decode cQ_open 14 = .ok (.getfield 11, 3) := by decide +kernel
theorem dQ_open_17 : decode cQ_open 17 = .ok (.iload_n 3, 1) := by decide +kernel
theorem dQ_open_18 : decode cQ_open 18 = .ok (.aaload, 1) := by decide +kernel
theorem dQ_open_19 : decode cQ_open 19 = .ok (.getfield 42, 3) := by decide +kernel
theorem dQ_open_22 : decode cQ_open 22 = .ok (.invokestatic 50, 3) := by decide +kernel
theorem dQ_open_25 : decode cQ_open 25 = .ok (.lstore_n 1, 1) := by decide +kernel
theorem dQ_open_26 : decode cQ_open 26 = .ok (.iinc 3 1, 3) := by decide +kernel
theorem dQ_open_29 : decode cQ_open 29 = .ok (.goto (-23), 3) := by decide +kernel
theorem dQ_open_32 : decode cQ_open 32 = .ok (.lload_n 1, 1) := by decide +kernel
theorem dQ_open_33 : decode cQ_open 33 = .ok (.invokestatic 54, 3) := by decide +kernel
theorem dQ_open_36 : decode cQ_open 36 = .ok (.lstore_n 3, 1) := by decide +kernel
theorem dQ_open_37 : decode cQ_open 37 = .ok (.aload_n 0, 1) := by decide +kernel
theorem dQ_open_38 : decode cQ_open 38 = .ok (.lload_n 3, 1) := by decide +kernel
theorem dQ_open_39 : decode cQ_open 39 = .ok (.ldc2_w 58, 3) := by decide +kernel
theorem dQ_open_42 : decode cQ_open 42 = .ok (.lrem, 1) := by decide +kernel
theorem dQ_open_43 : decode cQ_open 43 = .ok (.l2i, 1) := by decide +kernel
theorem dQ_open_44 : decode cQ_open 44 = .ok (.putfield 20, 3) := by decide +kernel
theorem dQ_open_47 : decode cQ_open 47 = .ok (.iconst 1, 1) := by decide +kernel
theorem dQ_open_48 : decode cQ_open 48 = .ok (.lload_n 3, 1) := by decide +kernel
theorem dQ_open_49 : decode cQ_open 49 = .ok (.ldc2_w 58, 3) := by decide +kernel
theorem dQ_open_52 : decode cQ_open 52 = .ok (.ldiv, 1) := by decide +kernel
theorem dQ_open_53 : decode cQ_open 53 = .ok (.ldc2_w 60, 3) := by decide +kernel
theorem dQ_open_56 : decode cQ_open 56 = .ok (.lrem, 1) := by decide +kernel
theorem dQ_open_57 : decode cQ_open 57 = .ok (.l2i, 1) := by decide +kernel
theorem dQ_open_58 : decode cQ_open 58 = .ok (.iadd, 1) := by decide +kernel
theorem dQ_open_59 : decode cQ_open 59 = .ok (.istore 5, 2) := by decide +kernel
theorem dQ_open_61 : decode cQ_open 61 = .ok (.aload_n 0, 1) := by decide +kernel
theorem dQ_open_62 : decode cQ_open 62 = .ok (.aload_n 0, 1) := by decide +kernel
theorem dQ_open_63 : decode cQ_open 63 = .ok (.getfield 20, 3) := by decide +kernel
theorem dQ_open_66 : decode cQ_open 66 = .ok (.iload 5, 2) := by decide +kernel
theorem dQ_open_68 : decode cQ_open 68 = .ok (.iadd, 1) := by decide +kernel
theorem dQ_open_69 : decode cQ_open 69 = .ok (.bipush 6, 2) := by decide +kernel
theorem dQ_open_71 : decode cQ_open 71 = .ok (.irem, 1) := by decide +kernel
theorem dQ_open_72 : decode cQ_open 72 = .ok (.putfield 24, 3) := by decide +kernel
theorem dQ_open_75 : decode cQ_open 75 = .ok (.return_, 1) := by decide +kernel
abbrev yQ_sortParts : MethodName := { cls := "BlindMint$Proposal", name := "sortParts", desc := "()V" }
abbrev cQ_sortParts : ByteArray := prog_10_method_6_code
theorem dQ_sortParts_0 : decode cQ_sortParts 0 = .ok (.iconst 0, 1) := by decide +kernel
theorem dQ_sortParts_1 : decode cQ_sortParts 1 = .ok (.istore_n 1, 1) := by decide +kernel
theorem dQ_sortParts_2 : decode cQ_sortParts 2 = .ok (.iconst 0, 1) := by decide +kernel
theorem dQ_sortParts_3 : decode cQ_sortParts 3 = .ok (.istore_n 2, 1) := by decide +kernel
theorem dQ_sortParts_4 : decode cQ_sortParts 4 = .ok (.iload_n 2, 1) := by decide +kernel
theorem dQ_sortParts_5 : decode cQ_sortParts 5 = .ok (.bipush 6, 2) := by decide +kernel
theorem dQ_sortParts_7 : decode cQ_sortParts 7 = .ok (.if_icmp .ge 44, 3) := by decide +kernel
theorem dQ_sortParts_10 : decode cQ_sortParts 10 = .ok (.iload_n 1, 1) := by decide +kernel
theorem dQ_sortParts_11 : decode cQ_sortParts 11 = .ok (.iconst 4, 1) := by decide +kernel
theorem dQ_sortParts_12 : decode cQ_sortParts 12 = .ok (.if_icmp .ge 39, 3) := by decide +kernel
theorem dQ_sortParts_15 : decode cQ_sortParts 15 = .ok (.iload_n 2, 1) := by decide +kernel
theorem dQ_sortParts_16 : decode cQ_sortParts 16 = .ok (.aload_n 0, 1) := by decide +kernel
theorem dQ_sortParts_17 : decode cQ_sortParts 17 = .ok (.getfield 20, 3) := by decide +kernel
theorem dQ_sortParts_20 : decode cQ_sortParts 20 = .ok (.if_icmp .eq 25, 3) := by decide +kernel
theorem dQ_sortParts_23 : decode cQ_sortParts 23 = .ok (.iload_n 2, 1) := by decide +kernel
theorem dQ_sortParts_24 : decode cQ_sortParts 24 = .ok (.aload_n 0, 1) := by decide +kernel
theorem dQ_sortParts_25 : decode cQ_sortParts 25 = .ok (.getfield 24, 3) := by decide +kernel
theorem dQ_sortParts_28 : decode cQ_sortParts 28 = .ok (.if_icmp .eq 17, 3) := by decide +kernel
theorem dQ_sortParts_31 : decode cQ_sortParts 31 = .ok (.aload_n 0, 1) := by decide +kernel
theorem dQ_sortParts_32 : decode cQ_sortParts 32 = .ok (.aload_n 0, 1) := by decide +kernel
theorem dQ_sortParts_33 : decode cQ_sortParts 33 = .ok (.getfield 11, 3) := by decide +kernel
theorem dQ_sortParts_36 : decode cQ_sortParts 36 = .ok (.iload_n 2, 1) := by decide +kernel
theorem dQ_sortParts_37 : decode cQ_sortParts 37 = .ok (.aaload, 1) := by decide +kernel
theorem dQ_sortParts_38 : decode cQ_sortParts 38 = .ok (.iload_n 1, 1) := by decide +kernel
theorem dQ_sortParts_39 : decode cQ_sortParts 39 = .ok (.invokevirtual 62, 3) := by decide +kernel
theorem dQ_sortParts_42 : decode cQ_sortParts 42 = .ok (.iinc 1 1, 3) := by decide +kernel
theorem dQ_sortParts_45 : decode cQ_sortParts 45 = .ok (.iinc 2 1, 3) := by decide +kernel
theorem dQ_sortParts_48 : decode cQ_sortParts 48 = .ok (.goto (-44), 3) := by decide +kernel
theorem dQ_sortParts_51 : decode cQ_sortParts 51 = .ok (.return_, 1) := by decide +kernel
abbrev yQ_insertPart : MethodName := { cls := "BlindMint$Proposal", name := "insertPart", desc := "(LBlindMint$Candidate;I)V" }
abbrev cQ_insertPart : ByteArray := prog_10_method_7_code
theorem dQ_insertPart_0 : decode cQ_insertPart 0 = .ok (.iload_n 2, 1) := by decide +kernel
theorem dQ_insertPart_1 : decode cQ_insertPart 1 = .ok (.istore_n 3, 1) := by decide +kernel
theorem dQ_insertPart_2 : decode cQ_insertPart 2 = .ok (.iload_n 3, 1) := by decide +kernel
theorem dQ_insertPart_3 : decode cQ_insertPart 3 = .ok (.ifCond .le 42, 3) := by decide +kernel
theorem dQ_insertPart_6 : decode cQ_insertPart 6 = .ok (.aload_n 0, 1) := by decide +kernel
theorem dQ_insertPart_7 : decode cQ_insertPart 7 = .ok (.getfield 17, 3) := by decide +kernel
theorem dQ_insertPart_10 : decode cQ_insertPart 10 = .ok (.iload_n 3, 1) := by decide +kernel
theorem dQ_insertPart_11 : decode cQ_insertPart 11 = .ok (.iconst 1, 1) := by decide +kernel
theorem dQ_insertPart_12 : decode cQ_insertPart 12 = .ok (.isub, 1) := by decide +kernel
theorem dQ_insertPart_13 : decode cQ_insertPart 13 = .ok (.aaload, 1) := by decide +kernel
theorem dQ_insertPart_14 : decode cQ_insertPart 14 = .ok (.getfield 42, 3) := by decide +kernel
theorem dQ_insertPart_17 : decode cQ_insertPart 17 = .ok (.aload_n 1, 1) := by decide +kernel
theorem dQ_insertPart_18 : decode cQ_insertPart 18 = .ok (.getfield 42, 3) := by decide +kernel
theorem dQ_insertPart_21 : decode cQ_insertPart 21 = .ok (.lcmp, 1) := by decide +kernel
theorem dQ_insertPart_22 : decode cQ_insertPart 22 = .ok (.ifCond .le 23, 3) := by decide +kernel
theorem dQ_insertPart_25 : decode cQ_insertPart 25 = .ok (.aload_n 0, 1) := by decide +kernel
theorem dQ_insertPart_26 : decode cQ_insertPart 26 = .ok (.getfield 17, 3) := by decide +kernel
theorem dQ_insertPart_29 : decode cQ_insertPart 29 = .ok (.iload_n 3, 1) := by decide +kernel
theorem dQ_insertPart_30 : decode cQ_insertPart 30 = .ok (.aload_n 0, 1) := by decide +kernel
theorem dQ_insertPart_31 : decode cQ_insertPart 31 = .ok (.getfield 17, 3) := by decide +kernel
theorem dQ_insertPart_34 : decode cQ_insertPart 34 = .ok (.iload_n 3, 1) := by decide +kernel
theorem dQ_insertPart_35 : decode cQ_insertPart 35 = .ok (.iconst 1, 1) := by decide +kernel
theorem dQ_insertPart_36 : decode cQ_insertPart 36 = .ok (.isub, 1) := by decide +kernel
theorem dQ_insertPart_37 : decode cQ_insertPart 37 = .ok (.aaload, 1) := by decide +kernel
theorem dQ_insertPart_38 : decode cQ_insertPart 38 = .ok (.aastore, 1) := by decide +kernel
theorem dQ_insertPart_39 : decode cQ_insertPart 39 = .ok (.iinc 3 (-1), 3) := by decide +kernel
theorem dQ_insertPart_42 : decode cQ_insertPart 42 = .ok (.goto (-40), 3) := by decide +kernel
theorem dQ_insertPart_45 : decode cQ_insertPart 45 = .ok (.aload_n 0, 1) := by decide +kernel
theorem dQ_insertPart_46 : decode cQ_insertPart 46 = .ok (.getfield 17, 3) := by decide +kernel
theorem dQ_insertPart_49 : decode cQ_insertPart 49 = .ok (.iload_n 3, 1) := by decide +kernel
theorem dQ_insertPart_50 : decode cQ_insertPart 50 = .ok (.aload_n 1, 1) := by decide +kernel
theorem dQ_insertPart_51 : decode cQ_insertPart 51 = .ok (.aastore, 1) := by decide +kernel
theorem dQ_insertPart_52 : decode cQ_insertPart 52 = .ok (.return_, 1) := by decide +kernel
abbrev yQ_openedCheats : MethodName := { cls := "BlindMint$Proposal", name := "openedCheats", desc := "(J)I" }
abbrev cQ_openedCheats : ByteArray := prog_10_method_3_code
theorem dQ_openedCheats_0 : decode cQ_openedCheats 0 = .ok (.aload_n 0, 1) := by decide +kernel
theorem dQ_openedCheats_1 : decode cQ_openedCheats 1 = .ok (.getfield 11, 3) := by decide +kernel
theorem dQ_openedCheats_4 : decode cQ_openedCheats 4 = .ok (.aload_n 0, 1) := by decide +kernel
theorem dQ_openedCheats_5 : decode cQ_openedCheats 5 = .ok (.getfield 20, 3) := by decide +kernel
theorem dQ_openedCheats_8 : decode cQ_openedCheats 8 = .ok (.aaload, 1) := by decide +kernel
theorem dQ_openedCheats_9 : decode cQ_openedCheats 9 = .ok (.lload_n 1, 1) := by decide +kernel
theorem dQ_openedCheats_10 : decode cQ_openedCheats 10 = .ok (.invokevirtual 38, 3) := by decide +kernel
theorem dQ_openedCheats_13 : decode cQ_openedCheats 13 = .ok (.ifCond .eq 7, 3) := by decide +kernel
theorem dQ_openedCheats_16 : decode cQ_openedCheats 16 = .ok (.iconst 0, 1) := by decide +kernel
theorem dQ_openedCheats_17 : decode cQ_openedCheats 17 = .ok (.goto 4, 3) := by decide +kernel
theorem dQ_openedCheats_20 : decode cQ_openedCheats 20 = .ok (.iconst 1, 1) := by decide +kernel
theorem dQ_openedCheats_21 : decode cQ_openedCheats 21 = .ok (.aload_n 0, 1) := by decide +kernel
theorem dQ_openedCheats_22 : decode cQ_openedCheats 22 = .ok (.getfield 11, 3) := by decide +kernel
theorem dQ_openedCheats_25 : decode cQ_openedCheats 25 = .ok (.aload_n 0, 1) := by decide +kernel
theorem dQ_openedCheats_26 : decode cQ_openedCheats 26 = .ok (.getfield 24, 3) := by decide +kernel
theorem dQ_openedCheats_29 : decode cQ_openedCheats 29 = .ok (.aaload, 1) := by decide +kernel
theorem dQ_openedCheats_30 : decode cQ_openedCheats 30 = .ok (.lload_n 1, 1) := by decide +kernel
theorem dQ_openedCheats_31 : decode cQ_openedCheats 31 = .ok (.invokevirtual 38, 3) := by decide +kernel
theorem dQ_openedCheats_34 : decode cQ_openedCheats 34 = .ok (.ifCond .eq 7, 3) := by decide +kernel
theorem dQ_openedCheats_37 : decode cQ_openedCheats 37 = .ok (.iconst 0, 1) := by decide +kernel
theorem dQ_openedCheats_38 : decode cQ_openedCheats 38 = .ok (.goto 4, 3) := by decide +kernel
theorem dQ_openedCheats_41 : decode cQ_openedCheats 41 = .ok (.iconst 1, 1) := by decide +kernel
theorem dQ_openedCheats_42 : decode cQ_openedCheats 42 = .ok (.iadd, 1) := by decide +kernel
theorem dQ_openedCheats_43 : decode cQ_openedCheats 43 = .ok (.ireturn, 1) := by decide +kernel
abbrev yC_hides : MethodName := { cls := "BlindMint$Candidate", name := "hides", desc := "(J)Z" }
abbrev cC_hides : ByteArray := prog_3_method_3_code
theorem dC_hides_0 : decode cC_hides 0 = .ok (.aload_n 0, 1) := by decide +kernel
theorem dC_hides_1 : decode cC_hides 1 = .ok (.getfield 13, 3) := by decide +kernel
theorem dC_hides_4 : decode cC_hides 4 = .ok (.aload_n 0, 1) := by decide +kernel
theorem dC_hides_5 : decode cC_hides 5 = .ok (.getfield 25, 3) := by decide +kernel
theorem dC_hides_8 : decode cC_hides 8 = .ok (.lxor, 1) := by decide +kernel
theorem dC_hides_9 : decode cC_hides 9 = .ok (.lload_n 1, 1) := by decide +kernel
theorem dC_hides_10 : decode cC_hides 10 = .ok (.lcmp, 1) := by decide +kernel
theorem dC_hides_11 : decode cC_hides 11 = .ok (.ifCond .ne 7, 3) := by decide +kernel
theorem dC_hides_14 : decode cC_hides 14 = .ok (.iconst 1, 1) := by decide +kernel
theorem dC_hides_15 : decode cC_hides 15 = .ok (.goto 4, 3) := by decide +kernel
theorem dC_hides_18 : decode cC_hides 18 = .ok (.iconst 0, 1) := by decide +kernel
theorem dC_hides_19 : decode cC_hides 19 = .ok (.ireturn, 1) := by decide +kernel
abbrev yQ_readPairHashes : MethodName := { cls := "BlindMint$Proposal", name := "readPairHashes", desc := "([J)V" }
abbrev cQ_readPairHashes : ByteArray := prog_10_method_4_code
theorem dQ_readPairHashes_0 : decode cQ_readPairHashes 0 = .ok (.iconst 0, 1) := by decide +kernel
theorem dQ_readPairHashes_1 : decode cQ_readPairHashes 1 = .ok (.istore_n 2, 1) := by decide +kernel
theorem dQ_readPairHashes_2 : decode cQ_readPairHashes 2 = .ok (.iload_n 2, 1) := by decide +kernel
theorem dQ_readPairHashes_3 : decode cQ_readPairHashes 3 = .ok (.iconst 4, 1) := by decide +kernel
theorem dQ_readPairHashes_4 : decode cQ_readPairHashes 4 = .ok (.if_icmp .ge 21, 3) := by decide +kernel
theorem dQ_readPairHashes_7 : decode cQ_readPairHashes 7 = .ok (.aload_n 1, 1) := by decide +kernel
theorem dQ_readPairHashes_8 : decode cQ_readPairHashes 8 = .ok (.iload_n 2, 1) := by decide +kernel
theorem dQ_readPairHashes_9 : decode cQ_readPairHashes 9 = .ok (.aload_n 0, 1) := by decide +kernel
theorem dQ_readPairHashes_10 : decode cQ_readPairHashes 10 = .ok (.getfield 17, 3) := by decide +kernel
theorem dQ_readPairHashes_13 : decode cQ_readPairHashes 13 = .ok (.iload_n 2, 1) := by decide +kernel
theorem dQ_readPairHashes_14 : decode cQ_readPairHashes 14 = .ok (.aaload, 1) := by decide +kernel
theorem dQ_readPairHashes_15 : decode cQ_readPairHashes 15 = .ok (.getfield 42, 3) := by decide +kernel
theorem dQ_readPairHashes_18 : decode cQ_readPairHashes 18 = .ok (.lastore, 1) := by decide +kernel
theorem dQ_readPairHashes_19 : decode cQ_readPairHashes 19 = .ok (.iinc 2 1, 3) := by decide +kernel
theorem dQ_readPairHashes_22 : decode cQ_readPairHashes 22 = .ok (.goto (-20), 3) := by decide +kernel
theorem dQ_readPairHashes_25 : decode cQ_readPairHashes 25 = .ok (.return_, 1) := by decide +kernel
abbrev yD_blindingFactor : MethodName := { cls := "BlindMint$Denomination", name := "blindingFactor", desc := "(J)J" }
abbrev cD_blindingFactor : ByteArray := prog_6_method_4_code
theorem dD_blindingFactor_0 : decode cD_blindingFactor 0 = .ok (.lload_n 1, 1) := by decide +kernel
theorem dD_blindingFactor_1 : decode cD_blindingFactor 1 = .ok (.lstore_n 3, 1) := by decide +kernel
theorem dD_blindingFactor_2 : decode cD_blindingFactor 2 = .ok (.iconst 0, 1) := by decide +kernel
theorem dD_blindingFactor_3 : decode cD_blindingFactor 3 = .ok (.istore 5, 2) := by decide +kernel
theorem dD_blindingFactor_5 : decode cD_blindingFactor 5 = .ok (.iload 5, 2) := by decide +kernel
theorem dD_blindingFactor_7 : decode cD_blindingFactor 7 = .ok (.iconst 2, 1) := by decide +kernel
theorem dD_blindingFactor_8 : decode cD_blindingFactor 8 = .ok (.if_icmp .ge 35, 3) := by decide +kernel
theorem dD_blindingFactor_11 : decode cD_blindingFactor 11 = .ok (.lload_n 3, 1) := by decide +kernel
theorem dD_blindingFactor_12 : decode cD_blindingFactor 12 = .ok (.aload_n 0, 1) := by decide +kernel
theorem dD_blindingFactor_13 : decode cD_blindingFactor 13 = .ok (.getfield 36, 3) := by decide +kernel
theorem dD_blindingFactor_16 : decode cD_blindingFactor 16 = .ok (.lrem, 1) := by decide +kernel
theorem dD_blindingFactor_17 : decode cD_blindingFactor 17 = .ok (.lconst 0, 1) := by decide +kernel
theorem dD_blindingFactor_18 : decode cD_blindingFactor 18 = .ok (.lcmp, 1) := by decide +kernel
theorem dD_blindingFactor_19 : decode cD_blindingFactor 19 = .ok (.ifCond .eq 14, 3) := by decide +kernel
theorem dD_blindingFactor_22 : decode cD_blindingFactor 22 = .ok (.lload_n 3, 1) := by decide +kernel
theorem dD_blindingFactor_23 : decode cD_blindingFactor 23 = .ok (.aload_n 0, 1) := by decide +kernel
theorem dD_blindingFactor_24 : decode cD_blindingFactor 24 = .ok (.getfield 40, 3) := by decide +kernel
theorem dD_blindingFactor_27 : decode cD_blindingFactor 27 = .ok (.lrem, 1) := by decide +kernel
theorem dD_blindingFactor_28 : decode cD_blindingFactor 28 = .ok (.lconst 0, 1) := by decide +kernel
theorem dD_blindingFactor_29 : decode cD_blindingFactor 29 = .ok (.lcmp, 1) := by decide +kernel
theorem dD_blindingFactor_30 : decode cD_blindingFactor 30 = .ok (.ifCond .ne 13, 3) := by decide +kernel
theorem dD_blindingFactor_33 : decode cD_blindingFactor 33 = .ok (.lload_n 3, 1) := by decide +kernel
theorem dD_blindingFactor_34 : decode cD_blindingFactor 34 = .ok (.lconst 1, 1) := by decide +kernel
theorem dD_blindingFactor_35 : decode cD_blindingFactor 35 = .ok (.ladd, 1) := by decide +kernel
theorem dD_blindingFactor_36 : decode cD_blindingFactor 36 = .ok (.lstore_n 3, 1) := by decide +kernel
theorem dD_blindingFactor_37 : decode cD_blindingFactor 37 = .ok (.iinc 5 1, 3) := by decide +kernel
theorem dD_blindingFactor_40 : decode cD_blindingFactor 40 = .ok (.goto (-35), 3) := by decide +kernel
theorem dD_blindingFactor_43 : decode cD_blindingFactor 43 = .ok (.lload_n 3, 1) := by decide +kernel
theorem dD_blindingFactor_44 : decode cD_blindingFactor 44 = .ok (.lreturn, 1) := by decide +kernel
abbrev yD_blind : MethodName := { cls := "BlindMint$Denomination", name := "blind", desc := "(JJ)J" }
abbrev cD_blind : ByteArray := prog_6_method_5_code
theorem dD_blind_0 : decode cD_blind 0 = .ok (.aload_n 0, 1) := by decide +kernel
theorem dD_blind_1 : decode cD_blind 1 = .ok (.lload_n 1, 1) := by decide +kernel
theorem dD_blind_2 : decode cD_blind 2 = .ok (.lload_n 3, 1) := by decide +kernel
theorem dD_blind_3 : decode cD_blind 3 = .ok (.ldc2_w 43, 3) := by decide +kernel
theorem dD_blind_6 : decode cD_blind 6 = .ok (.aload_n 0, 1) := by decide +kernel
theorem dD_blind_7 : decode cD_blind 7 = .ok (.getfield 36, 3) := by decide +kernel
theorem dD_blind_10 : decode cD_blind 10 = .ok (.invokestatic 45, 3) := by decide +kernel
theorem dD_blind_13 : decode cD_blind 13 = .ok (.aload_n 0, 1) := by decide +kernel
theorem dD_blind_14 : decode cD_blind 14 = .ok (.getfield 36, 3) := by decide +kernel
theorem dD_blind_17 : decode cD_blind 17 = .ok (.invokestatic 51, 3) := by decide +kernel
theorem dD_blind_20 : decode cD_blind 20 = .ok (.lload_n 1, 1) := by decide +kernel
theorem dD_blind_21 : decode cD_blind 21 = .ok (.lload_n 3, 1) := by decide +kernel
theorem dD_blind_22 : decode cD_blind 22 = .ok (.ldc2_w 43, 3) := by decide +kernel
theorem dD_blind_25 : decode cD_blind 25 = .ok (.aload_n 0, 1) := by decide +kernel
theorem dD_blind_26 : decode cD_blind 26 = .ok (.getfield 40, 3) := by decide +kernel
theorem dD_blind_29 : decode cD_blind 29 = .ok (.invokestatic 45, 3) := by decide +kernel
theorem dD_blind_32 : decode cD_blind 32 = .ok (.aload_n 0, 1) := by decide +kernel
theorem dD_blind_33 : decode cD_blind 33 = .ok (.getfield 40, 3) := by decide +kernel
theorem dD_blind_36 : decode cD_blind 36 = .ok (.invokestatic 51, 3) := by decide +kernel
theorem dD_blind_39 : decode cD_blind 39 = .ok (.invokevirtual 54, 3) := by decide +kernel
theorem dD_blind_42 : decode cD_blind 42 = .ok (.lreturn, 1) := by decide +kernel
abbrev yF_multiply : MethodName := { cls := "BlindMint$Field", name := "multiply", desc := "(JJJ)J" }
abbrev cF_multiply : ByteArray := prog_7_method_2_code
theorem dF_multiply_0 : decode cF_multiply 0 = .ok (.lload_n 0, 1) := by decide +kernel
theorem dF_multiply_1 : decode cF_multiply 1 = .ok (.lload 4, 2) := by decide +kernel
theorem dF_multiply_3 : decode cF_multiply 3 = .ok (.lrem, 1) := by decide +kernel
theorem dF_multiply_4 : decode cF_multiply 4 = .ok (.lload_n 2, 1) := by decide +kernel
theorem dF_multiply_5 : decode cF_multiply 5 = .ok (.lload 4, 2) := by decide +kernel
theorem dF_multiply_7 : decode cF_multiply 7 = .ok (.lrem, 1) := by decide +kernel
theorem dF_multiply_8 : decode cF_multiply 8 = .ok (.lmul, 1) := by decide +kernel
theorem dF_multiply_9 : decode cF_multiply 9 = .ok (.lload 4, 2) := by decide +kernel
theorem dF_multiply_11 : decode cF_multiply 11 = .ok (.lrem, 1) := by decide +kernel
theorem dF_multiply_12 : decode cF_multiply 12 = .ok (.lreturn, 1) := by decide +kernel
abbrev yD_join : MethodName := { cls := "BlindMint$Denomination", name := "join", desc := "(JJ)J" }
abbrev cD_join : ByteArray := prog_6_method_9_code
theorem dD_join_0 : decode cD_join 0 = .ok (.lload_n 3, 1) := by decide +kernel
theorem dD_join_1 : decode cD_join 1 = .ok (.lload_n 1, 1) := by decide +kernel
theorem dD_join_2 : decode cD_join 2 = .ok (.lsub, 1) := by decide +kernel
theorem dD_join_3 : decode cD_join 3 = .ok (.aload_n 0, 1) := by decide +kernel
theorem dD_join_4 : decode cD_join 4 = .ok (.getfield 40, 3) := by decide +kernel
theorem dD_join_7 : decode cD_join 7 = .ok (.invokestatic 64, 3) := by decide +kernel
theorem dD_join_10 : decode cD_join 10 = .ok (.aload_n 0, 1) := by decide +kernel
theorem dD_join_11 : decode cD_join 11 = .ok (.getfield 36, 3) := by decide +kernel
theorem dD_join_14 : decode cD_join 14 = .ok (.aload_n 0, 1) := by decide +kernel
theorem dD_join_15 : decode cD_join 15 = .ok (.getfield 40, 3) := by decide +kernel
theorem dD_join_18 : decode cD_join 18 = .ok (.invokestatic 61, 3) := by decide +kernel
theorem dD_join_21 : decode cD_join 21 = .ok (.lstore 5, 2) := by decide +kernel
theorem dD_join_23 : decode cD_join 23 = .ok (.lload_n 1, 1) := by decide +kernel
theorem dD_join_24 : decode cD_join 24 = .ok (.aload_n 0, 1) := by decide +kernel
theorem dD_join_25 : decode cD_join 25 = .ok (.getfield 36, 3) := by decide +kernel
theorem dD_join_28 : decode cD_join 28 = .ok (.lload 5, 2) := by decide +kernel
theorem dD_join_30 : decode cD_join 30 = .ok (.lmul, 1) := by decide +kernel
theorem dD_join_31 : decode cD_join 31 = .ok (.ladd, 1) := by decide +kernel
theorem dD_join_32 : decode cD_join 32 = .ok (.lreturn, 1) := by decide +kernel
abbrev yJ_floorMod : MethodName := { cls := "java/lang/Math", name := "floorMod", desc := "(JJ)J" }
abbrev cJ_floorMod : ByteArray := prog_18_method_52_code
theorem dJ_floorMod_0 : decode cJ_floorMod 0 = .ok (.lload_n 0, 1) := by decide +kernel
theorem dJ_floorMod_1 : decode cJ_floorMod 1 = .ok (.lload_n 2, 1) := by decide +kernel
theorem dJ_floorMod_2 : decode cJ_floorMod 2 = .ok (.lrem, 1) := by decide +kernel
theorem dJ_floorMod_3 : decode cJ_floorMod 3 = .ok (.lstore 4, 2) := by decide +kernel
theorem dJ_floorMod_5 : decode cJ_floorMod 5 = .ok (.lload_n 0, 1) := by decide +kernel
theorem dJ_floorMod_6 : decode cJ_floorMod 6 = .ok (.lload_n 2, 1) := by decide +kernel
theorem dJ_floorMod_7 : decode cJ_floorMod 7 = .ok (.lxor, 1) := by decide +kernel
theorem dJ_floorMod_8 : decode cJ_floorMod 8 = .ok (.lconst 0, 1) := by decide +kernel
theorem dJ_floorMod_9 : decode cJ_floorMod 9 = .ok (.lcmp, 1) := by decide +kernel
theorem dJ_floorMod_10 : decode cJ_floorMod 10 = .ok (.ifCond .ge 15, 3) := by decide +kernel
theorem dJ_floorMod_13 : decode cJ_floorMod 13 = .ok (.lload 4, 2) := by decide +kernel
theorem dJ_floorMod_15 : decode cJ_floorMod 15 = .ok (.lconst 0, 1) := by decide +kernel
theorem dJ_floorMod_16 : decode cJ_floorMod 16 = .ok (.lcmp, 1) := by decide +kernel
theorem dJ_floorMod_17 : decode cJ_floorMod 17 = .ok (.ifCond .eq 8, 3) := by decide +kernel
theorem dJ_floorMod_20 : decode cJ_floorMod 20 = .ok (.lload 4, 2) := by decide +kernel
theorem dJ_floorMod_22 : decode cJ_floorMod 22 = .ok (.lload_n 2, 1) := by decide +kernel
theorem dJ_floorMod_23 : decode cJ_floorMod 23 = .ok (.ladd, 1) := by decide +kernel
theorem dJ_floorMod_24 : decode cJ_floorMod 24 = .ok (.lreturn, 1) := by decide +kernel
theorem dJ_floorMod_25 : decode cJ_floorMod 25 = .ok (.lload 4, 2) := by decide +kernel
theorem dJ_floorMod_27 : decode cJ_floorMod 27 = .ok (.lreturn, 1) := by decide +kernel
abbrev yF_divide : MethodName := { cls := "BlindMint$Field", name := "divide", desc := "(JJJ)J" }
abbrev cF_divide : ByteArray := prog_7_method_4_code
theorem dF_divide_0 : decode cF_divide 0 = .ok (.lload_n 0, 1) := by decide +kernel
theorem dF_divide_1 : decode cF_divide 1 = .ok (.lload_n 2, 1) := by decide +kernel
theorem dF_divide_2 : decode cF_divide 2 = .ok (.lload 4, 2) := by decide +kernel
theorem dF_divide_4 : decode cF_divide 4 = .ok (.ldc2_w 15, 3) := by decide +kernel
theorem dF_divide_7 : decode cF_divide 7 = .ok (.lsub, 1) := by decide +kernel
theorem dF_divide_8 : decode cF_divide 8 = .ok (.lload 4, 2) := by decide +kernel
theorem dF_divide_10 : decode cF_divide 10 = .ok (.invokestatic 17, 3) := by decide +kernel
theorem dF_divide_13 : decode cF_divide 13 = .ok (.lload 4, 2) := by decide +kernel
theorem dF_divide_15 : decode cF_divide 15 = .ok (.invokestatic 21, 3) := by decide +kernel
theorem dF_divide_18 : decode cF_divide 18 = .ok (.lreturn, 1) := by decide +kernel
abbrev yD_sign : MethodName := { cls := "BlindMint$Denomination", name := "sign", desc := "(J)J" }
abbrev cD_sign : ByteArray := prog_6_method_6_code
theorem dD_sign_0 : decode cD_sign 0 = .ok (.aload_n 0, 1) := by decide +kernel
theorem dD_sign_1 : decode cD_sign 1 = .ok (.lload_n 1, 1) := by decide +kernel
theorem dD_sign_2 : decode cD_sign 2 = .ok (.ldc2_w 43, 3) := by decide +kernel
theorem dD_sign_5 : decode cD_sign 5 = .ok (.aload_n 0, 1) := by decide +kernel
theorem dD_sign_6 : decode cD_sign 6 = .ok (.getfield 36, 3) := by decide +kernel
theorem dD_sign_9 : decode cD_sign 9 = .ok (.invokestatic 58, 3) := by decide +kernel
theorem dD_sign_12 : decode cD_sign 12 = .ok (.lload_n 1, 1) := by decide +kernel
theorem dD_sign_13 : decode cD_sign 13 = .ok (.ldc2_w 43, 3) := by decide +kernel
theorem dD_sign_16 : decode cD_sign 16 = .ok (.aload_n 0, 1) := by decide +kernel
theorem dD_sign_17 : decode cD_sign 17 = .ok (.getfield 40, 3) := by decide +kernel
theorem dD_sign_20 : decode cD_sign 20 = .ok (.invokestatic 58, 3) := by decide +kernel
theorem dD_sign_23 : decode cD_sign 23 = .ok (.invokevirtual 54, 3) := by decide +kernel
theorem dD_sign_26 : decode cD_sign 26 = .ok (.lreturn, 1) := by decide +kernel
abbrev yF_root : MethodName := { cls := "BlindMint$Field", name := "root", desc := "(JJJ)J" }
abbrev cF_root : ByteArray := prog_7_method_5_code
theorem dF_root_0 : decode cF_root 0 = .ok (.lload_n 0, 1) := by decide +kernel
theorem dF_root_1 : decode cF_root 1 = .ok (.lload_n 2, 1) := by decide +kernel
theorem dF_root_2 : decode cF_root 2 = .ok (.lload 4, 2) := by decide +kernel
theorem dF_root_4 : decode cF_root 4 = .ok (.invokestatic 24, 3) := by decide +kernel
theorem dF_root_7 : decode cF_root 7 = .ok (.lload 4, 2) := by decide +kernel
theorem dF_root_9 : decode cF_root 9 = .ok (.invokestatic 17, 3) := by decide +kernel
theorem dF_root_12 : decode cF_root 12 = .ok (.lreturn, 1) := by decide +kernel
abbrev yF_rootExponent : MethodName := { cls := "BlindMint$Field", name := "rootExponent", desc := "(JJ)J" }
abbrev cF_rootExponent : ByteArray := prog_7_method_6_code
theorem dF_rootExponent_0 : decode cF_rootExponent 0 = .ok (.lconst 1, 1) := by decide +kernel
theorem dF_rootExponent_1 : decode cF_rootExponent 1 = .ok (.lstore 4, 2) := by decide +kernel
theorem dF_rootExponent_3 : decode cF_rootExponent 3 = .ok (.lload 4, 2) := by decide +kernel
theorem dF_rootExponent_5 : decode cF_rootExponent 5 = .ok (.lload_n 0, 1) := by decide +kernel
theorem dF_rootExponent_6 : decode cF_rootExponent 6 = .ok (.lcmp, 1) := by decide +kernel
theorem dF_rootExponent_7 : decode cF_rootExponent 7 = .ok (.ifCond .ge 36, 3) := by decide +kernel
theorem dF_rootExponent_10 : decode cF_rootExponent 10 = .ok (.lconst 1, 1) := by decide +kernel
theorem dF_rootExponent_11 : decode cF_rootExponent 11 = .ok (.lload 4, 2) := by decide +kernel
theorem dF_rootExponent_13 : decode cF_rootExponent 13 = .ok (.lload_n 2, 1) := by decide +kernel
theorem dF_rootExponent_14 : decode cF_rootExponent 14 = .ok (.lconst 1, 1) := by decide +kernel
theorem dF_rootExponent_15 : decode cF_rootExponent 15 = .ok (.lsub, 1) := by decide +kernel
theorem dF_rootExponent_16 : decode cF_rootExponent 16 = .ok (.lmul, 1) := by decide +kernel
theorem dF_rootExponent_17 : decode cF_rootExponent 17 = .ok (.ladd, 1) := by decide +kernel
theorem dF_rootExponent_18 : decode cF_rootExponent 18 = .ok (.lstore 6, 2) := by decide +kernel
theorem dF_rootExponent_20 : decode cF_rootExponent 20 = .ok (.lload 6, 2) := by decide +kernel
theorem dF_rootExponent_22 : decode cF_rootExponent 22 = .ok (.lload_n 0, 1) := by decide +kernel
theorem dF_rootExponent_23 : decode cF_rootExponent 23 = .ok (.lrem, 1) := by decide +kernel
theorem dF_rootExponent_24 : decode cF_rootExponent 24 = .ok (.lconst 0, 1) := by decide +kernel
theorem dF_rootExponent_25 : decode cF_rootExponent 25 = .ok (.lcmp, 1) := by decide +kernel
theorem dF_rootExponent_26 : decode cF_rootExponent 26 = .ok (.ifCond .ne 8, 3) := by decide +kernel
theorem dF_rootExponent_29 : decode cF_rootExponent 29 = .ok (.lload 6, 2) := by decide +kernel
theorem dF_rootExponent_31 : decode cF_rootExponent 31 = .ok (.lload_n 0, 1) := by decide +kernel
theorem dF_rootExponent_32 : decode cF_rootExponent 32 = .ok (.ldiv, 1) := by decide +kernel
theorem dF_rootExponent_33 : decode cF_rootExponent 33 = .ok (.lreturn, 1) := by decide +kernel
theorem dF_rootExponent_34 : decode cF_rootExponent 34 = .ok (.lload 4, 2) := by decide +kernel
theorem dF_rootExponent_36 : decode cF_rootExponent 36 = .ok (.lconst 1, 1) := by decide +kernel
theorem dF_rootExponent_37 : decode cF_rootExponent 37 = .ok (.ladd, 1) := by decide +kernel
theorem dF_rootExponent_38 : decode cF_rootExponent 38 = .ok (.lstore 4, 2) := by decide +kernel
theorem dF_rootExponent_40 : decode cF_rootExponent 40 = .ok (.goto (-37), 3) := by decide +kernel
theorem dF_rootExponent_43 : decode cF_rootExponent 43 = .ok (.lconst 1, 1) := by decide +kernel
theorem dF_rootExponent_44 : decode cF_rootExponent 44 = .ok (.lreturn, 1) := by decide +kernel
abbrev yD_unblind : MethodName := { cls := "BlindMint$Denomination", name := "unblind", desc := "(JJ)J" }
abbrev cD_unblind : ByteArray := prog_6_method_7_code
theorem dD_unblind_0 : decode cD_unblind 0 = .ok (.aload_n 0, 1) := by decide +kernel
theorem dD_unblind_1 : decode cD_unblind 1 = .ok (.lload_n 1, 1) := by decide +kernel
theorem dD_unblind_2 : decode cD_unblind 2 = .ok (.lload_n 3, 1) := by decide +kernel
theorem dD_unblind_3 : decode cD_unblind 3 = .ok (.aload_n 0, 1) := by decide +kernel
theorem dD_unblind_4 : decode cD_unblind 4 = .ok (.getfield 36, 3) := by decide +kernel
theorem dD_unblind_7 : decode cD_unblind 7 = .ok (.invokestatic 61, 3) := by decide +kernel
theorem dD_unblind_10 : decode cD_unblind 10 = .ok (.lload_n 1, 1) := by decide +kernel
theorem dD_unblind_11 : decode cD_unblind 11 = .ok (.lload_n 3, 1) := by decide +kernel
theorem dD_unblind_12 : decode cD_unblind 12 = .ok (.aload_n 0, 1) := by decide +kernel
theorem dD_unblind_13 : decode cD_unblind 13 = .ok (.getfield 40, 3) := by decide +kernel
theorem dD_unblind_16 : decode cD_unblind 16 = .ok (.invokestatic 61, 3) := by decide +kernel
theorem dD_unblind_19 : decode cD_unblind 19 = .ok (.invokevirtual 54, 3) := by decide +kernel
theorem dD_unblind_22 : decode cD_unblind 22 = .ok (.lreturn, 1) := by decide +kernel
abbrev yO_init : MethodName := { cls := "BlindMint$Coin", name := "<init>", desc := "(IJJ[LBlindMint$Candidate;)V" }
abbrev cO_init : ByteArray := prog_4_method_1_code
theorem dO_init_0 : decode cO_init 0 = .ok (.aload_n 0, 1) := by decide +kernel
theorem dO_init_1 : decode cO_init 1 = .ok (.invokespecial 3, 3) := by decide +kernel
theorem dO_init_4 : decode cO_init 4 = .ok (.aload_n 0, 1) := by decide +kernel
theorem dO_init_5 : decode cO_init 5 = .ok (.iconst 0, 1) := by decide +kernel
theorem dO_init_6 : decode cO_init 6 = .ok (.putfield 9, 3) := by decide +kernel
theorem dO_init_9 : decode cO_init 9 = .ok (.aload_n 0, 1) := by decide +kernel
theorem dO_init_10 : decode cO_init 10 = .ok (.bipush 12, 2) := by decide +kernel
theorem dO_init_12 : decode cO_init 12 = .ok (.newarray .long, 2) := by decide +kernel
theorem dO_init_14 : decode cO_init 14 = .ok (.putfield 17, 3) := by decide +kernel
theorem dO_init_17 : decode cO_init 17 = .ok (.aload_n 0, 1) := by decide +kernel
theorem dO_init_18 : decode cO_init 18 = .ok (.bipush 12, 2) := by decide +kernel
theorem dO_init_20 : decode cO_init 20 = .ok (.newarray .long, 2) := by decide +kernel
theorem dO_init_22 : decode cO_init 22 = .ok (.putfield 21, 3) := by decide +kernel
theorem dO_init_25 : decode cO_init 25 = .ok (.aload_n 0, 1) := by decide +kernel
theorem dO_init_26 : decode cO_init 26 = .ok (.iload_n 1, 1) := by decide +kernel
theorem dO_init_27 : decode cO_init 27 = .ok (.putfield 24, 3) := by decide +kernel
theorem dO_init_30 : decode cO_init 30 = .ok (.aload_n 0, 1) := by decide +kernel
theorem dO_init_31 : decode cO_init 31 = .ok (.lload_n 2, 1) := by decide +kernel
theorem dO_init_32 : decode cO_init 32 = .ok (.putfield 28, 3) := by decide +kernel
theorem dO_init_35 : decode cO_init 35 = .ok (.aload_n 0, 1) := by decide +kernel
theorem dO_init_36 : decode cO_init 36 = .ok (.lload 4, 2) := by decide +kernel
theorem dO_init_38 : decode cO_init 38 = .ok (.putfield 32, 3) := by decide +kernel
theorem dO_init_41 : decode cO_init 41 = .ok (.iconst 0, 1) := by decide +kernel
theorem dO_init_42 : decode cO_init 42 = .ok (.istore 7, 2) := by decide +kernel
theorem dO_init_44 : decode cO_init 44 = .ok (.iload 7, 2) := by decide +kernel
theorem dO_init_46 : decode cO_init 46 = .ok (.iconst 4, 1) := by decide +kernel
theorem dO_init_47 : decode cO_init 47 = .ok (.if_icmp .ge 102, 3) := by decide +kernel
theorem dO_init_50 : decode cO_init 50 = .ok (.aload 6, 2) := by decide +kernel
theorem dO_init_52 : decode cO_init 52 = .ok (.iload 7, 2) := by decide +kernel
theorem dO_init_54 : decode cO_init 54 = .ok (.aaload, 1) := by decide +kernel
theorem dO_init_55 : decode cO_init 55 = .ok (.astore 8, 2) := by decide +kernel
theorem dO_init_57 : decode cO_init 57 = .ok (.iload 7, 2) := by decide +kernel
theorem dO_init_59 : decode cO_init 59 = .ok (.iconst 3, 1) := by decide +kernel
theorem dO_init_60 : decode cO_init 60 = .ok (.imul, 1) := by decide +kernel
theorem dO_init_61 : decode cO_init 61 = .ok (.istore 9, 2) := by decide +kernel
theorem dO_init_63 : decode cO_init 63 = .ok (.aload_n 0, 1) := by decide +kernel
theorem dO_init_64 : decode cO_init 64 = .ok (.getfield 17, 3) := by decide +kernel
theorem dO_init_67 : decode cO_init 67 = .ok (.iload 9, 2) := by decide +kernel
theorem dO_init_69 : decode cO_init 69 = .ok (.aload 8, 2) := by decide +kernel
theorem dO_init_71 : decode cO_init 71 = .ok (.getfield 35, 3) := by decide +kernel
theorem dO_init_74 : decode cO_init 74 = .ok (.lastore, 1) := by decide +kernel
theorem dO_init_75 : decode cO_init 75 = .ok (.aload_n 0, 1) := by decide +kernel
theorem dO_init_76 : decode cO_init 76 = .ok (.getfield 17, 3) := by decide +kernel
theorem dO_init_79 : decode cO_init 79 = .ok (.iload 9, 2) := by decide +kernel
theorem dO_init_81 : decode cO_init 81 = .ok (.iconst 1, 1) := by decide +kernel
theorem dO_init_82 : decode cO_init 82 = .ok (.iadd, 1) := by decide +kernel
theorem dO_init_83 : decode cO_init 83 = .ok (.aload 8, 2) := by decide +kernel
theorem dO_init_85 : decode cO_init 85 = .ok (.getfield 40, 3) := by decide +kernel
theorem dO_init_88 : decode cO_init 88 = .ok (.lastore, 1) := by decide +kernel
theorem dO_init_89 : decode cO_init 89 = .ok (.aload_n 0, 1) := by decide +kernel
theorem dO_init_90 : decode cO_init 90 = .ok (.getfield 17, 3) := by decide +kernel
theorem dO_init_93 : decode cO_init 93 = .ok (.iload 9, 2) := by decide +kernel
theorem dO_init_95 : decode cO_init 95 = .ok (.iconst 2, 1) := by decide +kernel
theorem dO_init_96 : decode cO_init 96 = .ok (.iadd, 1) := by decide +kernel
theorem dO_init_97 : decode cO_init 97 = .ok (.aload 8, 2) := by decide +kernel
theorem dO_init_99 : decode cO_init 99 = .ok (.getfield 43, 3) := by decide +kernel
theorem dO_init_102 : decode cO_init 102 = .ok (.lastore, 1) := by decide +kernel
theorem dO_init_103 : decode cO_init 103 = .ok (.aload_n 0, 1) := by decide +kernel
theorem dO_init_104 : decode cO_init 104 = .ok (.getfield 21, 3) := by decide +kernel
theorem dO_init_107 : decode cO_init 107 = .ok (.iload 9, 2) := by decide +kernel
theorem dO_init_109 : decode cO_init 109 = .ok (.aload 8, 2) := by decide +kernel
theorem dO_init_111 : decode cO_init 111 = .ok (.getfield 46, 3) := by decide +kernel
theorem dO_init_114 : decode cO_init 114 = .ok (.lastore, 1) := by decide +kernel
theorem dO_init_115 : decode cO_init 115 = .ok (.aload_n 0, 1) := by decide +kernel
theorem dO_init_116 : decode cO_init 116 = .ok (.getfield 21, 3) := by decide +kernel
theorem dO_init_119 : decode cO_init 119 = .ok (.iload 9, 2) := by decide +kernel
theorem dO_init_121 : decode cO_init 121 = .ok (.iconst 1, 1) := by decide +kernel
theorem dO_init_122 : decode cO_init 122 = .ok (.iadd, 1) := by decide +kernel
theorem dO_init_123 : decode cO_init 123 = .ok (.aload 8, 2) := by decide +kernel
theorem dO_init_125 : decode cO_init 125 = .ok (.getfield 49, 3) := by decide +kernel
theorem dO_init_128 : decode cO_init 128 = .ok (.lastore, 1) := by decide +kernel
theorem dO_init_129 : decode cO_init 129 = .ok (.aload_n 0, 1) := by decide +kernel
theorem dO_init_130 : decode cO_init 130 = .ok (.getfield 21, 3) := by decide +kernel
theorem dO_init_133 : decode cO_init 133 = .ok (.iload 9, 2) := by decide +kernel
theorem dO_init_135 : decode cO_init 135 = .ok (.iconst 2, 1) := by decide +kernel
theorem dO_init_136 : decode cO_init 136 = .ok (.iadd, 1) := by decide +kernel
theorem dO_init_137 : decode cO_init 137 = .ok (.aload 8, 2) := by decide +kernel
theorem dO_init_139 : decode cO_init 139 = .ok (.getfield 52, 3) := by decide +kernel
theorem dO_init_142 : decode cO_init 142 = .ok (.lastore, 1) := by decide +kernel
theorem dO_init_143 : decode cO_init 143 = .ok (.iinc 7 1, 3) := by decide +kernel
theorem dO_init_146 : decode cO_init 146 = .ok (.goto (-102), 3) := by decide +kernel
theorem dO_init_149 : decode cO_init 149 = .ok (.return_, 1) := by decide +kernel
abbrev yA_keep : MethodName := { cls := "BlindMint$Account", name := "keep", desc := "(LBlindMint$Coin;)I" }
abbrev cA_keep : ByteArray := prog_2_method_3_code
theorem dA_keep_0 : decode cA_keep 0 = .ok (.aload_n 0, 1) := by decide +kernel
theorem dA_keep_1 : decode cA_keep 1 = .ok (.getfield 17, 3) := by decide +kernel
theorem dA_keep_4 : decode cA_keep 4 = .ok (.aload_n 0, 1) := by decide +kernel
theorem dA_keep_5 : decode cA_keep 5 = .ok (.getfield 21, 3) := by decide +kernel
theorem dA_keep_8 : decode cA_keep 8 = .ok (.aload_n 1, 1) := by decide +kernel
theorem dA_keep_9 : decode cA_keep 9 = .ok (.aastore, 1) := by decide +kernel
theorem dA_keep_10 : decode cA_keep 10 = .ok (.aload_n 0, 1) := by decide +kernel
theorem dA_keep_11 : decode cA_keep 11 = .ok (.dup, 1) := by decide +kernel
theorem dA_keep_12 : decode cA_keep 12 = .ok (.getfield 21, 3) := by decide +kernel
theorem dA_keep_15 : decode cA_keep 15 = .ok (.iconst 1, 1) := by decide +kernel
theorem dA_keep_16 : decode cA_keep 16 = .ok (.iadd, 1) := by decide +kernel
theorem dA_keep_17 : decode cA_keep 17 = .ok (.putfield 21, 3) := by decide +kernel
theorem dA_keep_20 : decode cA_keep 20 = .ok (.aload_n 0, 1) := by decide +kernel
theorem dA_keep_21 : decode cA_keep 21 = .ok (.getfield 21, 3) := by decide +kernel
theorem dA_keep_24 : decode cA_keep 24 = .ok (.iconst 1, 1) := by decide +kernel
theorem dA_keep_25 : decode cA_keep 25 = .ok (.isub, 1) := by decide +kernel
theorem dA_keep_26 : decode cA_keep 26 = .ok (.ireturn, 1) := by decide +kernel
abbrev yA_hasUnspent : MethodName := { cls := "BlindMint$Account", name := "hasUnspent", desc := "(II)Z" }
abbrev cA_hasUnspent : ByteArray := prog_2_method_4_code
theorem dA_hasUnspent_0 : decode cA_hasUnspent 0 = .ok (.aload_n 0, 1) := by decide +kernel
theorem dA_hasUnspent_1 : decode cA_hasUnspent 1 = .ok (.getfield 17, 3) := by decide +kernel
theorem dA_hasUnspent_4 : decode cA_hasUnspent 4 = .ok (.iload_n 1, 1) := by decide +kernel
theorem dA_hasUnspent_5 : decode cA_hasUnspent 5 = .ok (.aaload, 1) := by decide +kernel
theorem dA_hasUnspent_6 : decode cA_hasUnspent 6 = .ok (.getfield 24, 3) := by decide +kernel
theorem dA_hasUnspent_9 : decode cA_hasUnspent 9 = .ok (.iload_n 2, 1) := by decide +kernel
theorem dA_hasUnspent_10 : decode cA_hasUnspent 10 = .ok (.if_icmp .ne 19, 3) := by decide +kernel
theorem dA_hasUnspent_13 : decode cA_hasUnspent 13 = .ok (.aload_n 0, 1) := by decide +kernel
theorem dA_hasUnspent_14 : decode cA_hasUnspent 14 = .ok (.getfield 17, 3) := by decide +kernel
theorem dA_hasUnspent_17 : decode cA_hasUnspent 17 = .ok (.iload_n 1, 1) := by decide +kernel
theorem dA_hasUnspent_18 : decode cA_hasUnspent 18 = .ok (.aaload, 1) := by decide +kernel
theorem dA_hasUnspent_19 : decode cA_hasUnspent 19 = .ok (.getfield 27, 3) := by decide +kernel
theorem dA_hasUnspent_22 : decode cA_hasUnspent 22 = .ok (.ifCond .ne 7, 3) := by decide +kernel
theorem dA_hasUnspent_25 : decode cA_hasUnspent 25 = .ok (.iconst 1, 1) := by decide +kernel
theorem dA_hasUnspent_26 : decode cA_hasUnspent 26 = .ok (.goto 4, 3) := by decide +kernel
theorem dA_hasUnspent_29 : decode cA_hasUnspent 29 = .ok (.iconst 0, 1) := by decide +kernel
theorem dA_hasUnspent_30 : decode cA_hasUnspent 30 = .ok (.ireturn, 1) := by decide +kernel
abbrev yP_init : MethodName := { cls := "BlindMint$Payment", name := "<init>", desc := "(LBlindMint$Coin;II)V" }
abbrev cP_init : ByteArray := prog_9_method_1_code
theorem dP_init_0 : decode cP_init 0 = .ok (.aload_n 0, 1) := by decide +kernel
theorem dP_init_1 : decode cP_init 1 = .ok (.invokespecial 5, 3) := by decide +kernel
theorem dP_init_4 : decode cP_init 4 = .ok (.aload_n 0, 1) := by decide +kernel
theorem dP_init_5 : decode cP_init 5 = .ok (.bipush 16, 2) := by decide +kernel
theorem dP_init_7 : decode cP_init 7 = .ok (.newarray .long, 2) := by decide +kernel
theorem dP_init_9 : decode cP_init 9 = .ok (.putfield 11, 3) := by decide +kernel
theorem dP_init_12 : decode cP_init 12 = .ok (.aload_n 0, 1) := by decide +kernel
theorem dP_init_13 : decode cP_init 13 = .ok (.getfield 11, 3) := by decide +kernel
theorem dP_init_16 : decode cP_init 16 = .ok (.iconst 0, 1) := by decide +kernel
theorem dP_init_17 : decode cP_init 17 = .ok (.aload_n 1, 1) := by decide +kernel
theorem dP_init_18 : decode cP_init 18 = .ok (.getfield 15, 3) := by decide +kernel
theorem dP_init_21 : decode cP_init 21 = .ok (.i2l, 1) := by decide +kernel
theorem dP_init_22 : decode cP_init 22 = .ok (.lastore, 1) := by decide +kernel
theorem dP_init_23 : decode cP_init 23 = .ok (.aload_n 0, 1) := by decide +kernel
theorem dP_init_24 : decode cP_init 24 = .ok (.getfield 11, 3) := by decide +kernel
theorem dP_init_27 : decode cP_init 27 = .ok (.iconst 1, 1) := by decide +kernel
theorem dP_init_28 : decode cP_init 28 = .ok (.aload_n 1, 1) := by decide +kernel
theorem dP_init_29 : decode cP_init 29 = .ok (.getfield 21, 3) := by decide +kernel
theorem dP_init_32 : decode cP_init 32 = .ok (.lastore, 1) := by decide +kernel
theorem dP_init_33 : decode cP_init 33 = .ok (.aload_n 0, 1) := by decide +kernel
theorem dP_init_34 : decode cP_init 34 = .ok (.getfield 11, 3) := by decide +kernel
theorem dP_init_37 : decode cP_init 37 = .ok (.iconst 2, 1) := by decide +kernel
theorem dP_init_38 : decode cP_init 38 = .ok (.iload_n 2, 1) := by decide +kernel
theorem dP_init_39 : decode cP_init 39 = .ok (.i2l, 1) := by decide +kernel
theorem dP_init_40 : decode cP_init 40 = .ok (.lastore, 1) := by decide +kernel
theorem dP_init_41 : decode cP_init 41 = .ok (.aload_n 0, 1) := by decide +kernel
theorem dP_init_42 : decode cP_init 42 = .ok (.getfield 11, 3) := by decide +kernel
theorem dP_init_45 : decode cP_init 45 = .ok (.iconst 3, 1) := by decide +kernel
theorem dP_init_46 : decode cP_init 46 = .ok (.iload_n 3, 1) := by decide +kernel
theorem dP_init_47 : decode cP_init 47 = .ok (.i2l, 1) := by decide +kernel
theorem dP_init_48 : decode cP_init 48 = .ok (.lastore, 1) := by decide +kernel
theorem dP_init_49 : decode cP_init 49 = .ok (.aload_n 0, 1) := by decide +kernel
theorem dP_init_50 : decode cP_init 50 = .ok (.invokevirtual 25, 3) := by decide +kernel
theorem dP_init_53 : decode cP_init 53 = .ok (.lstore 4, 2) := by decide +kernel
theorem dP_init_55 : decode cP_init 55 = .ok (.iconst 0, 1) := by decide +kernel
theorem dP_init_56 : decode cP_init 56 = .ok (.istore 6, 2) := by decide +kernel
theorem dP_init_58 : decode cP_init 58 = .ok (.iload 6, 2) := by decide +kernel
theorem dP_init_60 : decode cP_init 60 = .ok (.iconst 4, 1) := by decide +kernel
theorem dP_init_61 : decode cP_init 61 = .ok (.if_icmp .ge 51, 3) := by decide +kernel
theorem dP_init_64 : decode cP_init 64 = .ok (.lload 4, 2) := by decide +kernel
theorem dP_init_66 : decode cP_init 66 = .ok (.iload 6, 2) := by decide +kernel
theorem dP_init_68 : decode cP_init 68 = .ok (.invokestatic 29, 3) := by decide +kernel
theorem dP_init_71 : decode cP_init 71 = .ok (.ifCond .eq 10, 3) := by decide +kernel
theorem dP_init_74 : decode cP_init 74 = .ok (.aload_n 1, 1) := by decide +kernel
theorem dP_init_75 : decode cP_init 75 = .ok (.getfield 33, 3) := by decide +kernel
theorem dP_init_78 : decode cP_init 78 = .ok (.goto 7, 3) := by decide +kernel
theorem dP_init_81 : decode cP_init 81 = .ok (.aload_n 1, 1) := by decide +kernel
theorem dP_init_82 : decode cP_init 82 = .ok (.getfield 36, 3) := by decide +kernel
theorem dP_init_85 : decode cP_init 85 = .ok (.astore 7, 2) := by decide +kernel
theorem dP_init_87 : decode cP_init 87 = .ok (.aload 7, 2) := by decide +kernel
theorem dP_init_89 : decode cP_init 89 = .ok (.iload 6, 2) := by decide +kernel
theorem dP_init_91 : decode cP_init 91 = .ok (.iconst 3, 1) := by decide +kernel
theorem dP_init_92 : decode cP_init 92 = .ok (.imul, 1) := by decide +kernel
theorem dP_init_93 : decode cP_init 93 = .ok (.aload_n 0, 1) := by decide +kernel
theorem dP_init_94 : decode cP_init 94 = .ok (.getfield 11, 3) := by decide +kernel
theorem dP_init_97 : decode cP_init 97 = .ok (.iload 6, 2) := by decide +kernel
theorem dP_init_99 : decode cP_init 99 = .ok (.invokestatic 39, 3) := by decide +kernel
theorem dP_init_102 : decode cP_init 102 = .ok (.iconst 3, 1) := by decide +kernel
theorem dP_init_103 : decode cP_init 103 = .ok (.invokestatic 43, 3) := by decide +kernel
theorem dP_init_106 : decode cP_init 106 = .ok (.iinc 6 1, 3) := by decide +kernel
theorem dP_init_109 : decode cP_init 109 = .ok (.goto (-51), 3) := by decide +kernel
theorem dP_init_112 : decode cP_init 112 = .ok (.return_, 1) := by decide +kernel
abbrev yP_hasNumber : MethodName := { cls := "BlindMint$Payment", name := "hasNumber", desc := "(I)Z" }
abbrev cP_hasNumber : ByteArray := prog_9_method_2_code
theorem dP_hasNumber_0 : decode cP_hasNumber 0 = .ok (.iload_n 0, 1) := by decide +kernel
theorem dP_hasNumber_1 : decode cP_hasNumber 1 = .ok (.ifCond .lt 13, 3) := by decide +kernel
theorem dP_hasNumber_4 : decode cP_hasNumber 4 = .ok (.iload_n 0, 1) := by decide +kernel
theorem dP_hasNumber_5 : decode cP_hasNumber 5 = .ok (.bipush 16, 2) := by decide +kernel
theorem dP_hasNumber_7 : decode cP_hasNumber 7 = .ok (.if_icmp .ge 7, 3) := by decide +kernel
theorem dP_hasNumber_10 : decode cP_hasNumber 10 = .ok (.iconst 1, 1) := by decide +kernel
theorem dP_hasNumber_11 : decode cP_hasNumber 11 = .ok (.goto 4, 3) := by decide +kernel
theorem dP_hasNumber_14 : decode cP_hasNumber 14 = .ok (.iconst 0, 1) := by decide +kernel
theorem dP_hasNumber_15 : decode cP_hasNumber 15 = .ok (.ireturn, 1) := by decide +kernel
abbrev yR_isOf : MethodName := { cls := "BlindMint$Credit", name := "isOf", desc := "(J[J)Z" }
abbrev cR_isOf : ByteArray := prog_5_method_2_code
theorem dR_isOf_0 : decode cR_isOf 0 = .ok (.aload_n 0, 1) := by decide +kernel
theorem dR_isOf_1 : decode cR_isOf 1 = .ok (.getfield 21, 3) := by decide +kernel
theorem dR_isOf_4 : decode cR_isOf 4 = .ok (.lload_n 1, 1) := by decide +kernel
theorem dR_isOf_5 : decode cR_isOf 5 = .ok (.lcmp, 1) := by decide +kernel
theorem dR_isOf_6 : decode cR_isOf 6 = .ok (.ifCond .ne 7, 3) := by decide +kernel
theorem dR_isOf_9 : decode cR_isOf 9 = .ok (.iconst 1, 1) := by decide +kernel
theorem dR_isOf_10 : decode cR_isOf 10 = .ok (.goto 4, 3) := by decide +kernel
theorem dR_isOf_13 : decode cR_isOf 13 = .ok (.iconst 0, 1) := by decide +kernel
theorem dR_isOf_14 : decode cR_isOf 14 = .ok (.istore 4, 2) := by decide +kernel
theorem dR_isOf_16 : decode cR_isOf 16 = .ok (.iconst 0, 1) := by decide +kernel
theorem dR_isOf_17 : decode cR_isOf 17 = .ok (.istore 5, 2) := by decide +kernel
theorem dR_isOf_19 : decode cR_isOf 19 = .ok (.iload 5, 2) := by decide +kernel
theorem dR_isOf_21 : decode cR_isOf 21 = .ok (.iconst 4, 1) := by decide +kernel
theorem dR_isOf_22 : decode cR_isOf 22 = .ok (.if_icmp .ge 36, 3) := by decide +kernel
theorem dR_isOf_25 : decode cR_isOf 25 = .ok (.iload 4, 2) := by decide +kernel
theorem dR_isOf_27 : decode cR_isOf 27 = .ok (.ifCond .eq 22, 3) := by decide +kernel
theorem dR_isOf_30 : decode cR_isOf 30 = .ok (.aload_n 0, 1) := by decide +kernel
theorem dR_isOf_31 : decode cR_isOf 31 = .ok (.getfield 24, 3) := by decide +kernel
theorem dR_isOf_34 : decode cR_isOf 34 = .ok (.iload 5, 2) := by decide +kernel
theorem dR_isOf_36 : decode cR_isOf 36 = .ok (.laload, 1) := by decide +kernel
theorem dR_isOf_37 : decode cR_isOf 37 = .ok (.aload_n 3, 1) := by decide +kernel
theorem dR_isOf_38 : decode cR_isOf 38 = .ok (.iload 5, 2) := by decide +kernel
theorem dR_isOf_40 : decode cR_isOf 40 = .ok (.laload, 1) := by decide +kernel
theorem dR_isOf_41 : decode cR_isOf 41 = .ok (.lcmp, 1) := by decide +kernel
theorem dR_isOf_42 : decode cR_isOf 42 = .ok (.ifCond .ne 7, 3) := by decide +kernel
theorem dR_isOf_45 : decode cR_isOf 45 = .ok (.iconst 1, 1) := by decide +kernel
theorem dR_isOf_46 : decode cR_isOf 46 = .ok (.goto 4, 3) := by decide +kernel
theorem dR_isOf_49 : decode cR_isOf 49 = .ok (.iconst 0, 1) := by decide +kernel
theorem dR_isOf_50 : decode cR_isOf 50 = .ok (.istore 4, 2) := by decide +kernel
theorem dR_isOf_52 : decode cR_isOf 52 = .ok (.iinc 5 1, 3) := by decide +kernel
theorem dR_isOf_55 : decode cR_isOf 55 = .ok (.goto (-36), 3) := by decide +kernel
theorem dR_isOf_58 : decode cR_isOf 58 = .ok (.iload 4, 2) := by decide +kernel
theorem dR_isOf_60 : decode cR_isOf 60 = .ok (.ireturn, 1) := by decide +kernel
abbrev yR_revealedIdentity : MethodName := { cls := "BlindMint$Credit", name := "revealedIdentity", desc := "(LBlindMint$Payment;)J" }
abbrev cR_revealedIdentity : ByteArray := prog_5_method_3_code
theorem dR_revealedIdentity_0 : decode cR_revealedIdentity 0 = .ok (.aload_n 0, 1) := by decide +kernel
theorem dR_revealedIdentity_1 : decode cR_revealedIdentity 1 = .ok (.getfield 30, 3) := by decide +kernel
theorem dR_revealedIdentity_4 : decode cR_revealedIdentity 4 = .ok (.aload_n 1, 1) := by decide +kernel
theorem dR_revealedIdentity_5 : decode cR_revealedIdentity 5 = .ok (.invokevirtual 27, 3) := by decide +kernel
theorem dR_revealedIdentity_8 : decode cR_revealedIdentity 8 = .ok (.lxor, 1) := by decide +kernel
theorem dR_revealedIdentity_9 : decode cR_revealedIdentity 9 = .ok (.lstore_n 2, 1) := by decide +kernel
theorem dR_revealedIdentity_10 : decode cR_revealedIdentity 10 = .ok (.iconst 0, 1) := by decide +kernel
theorem dR_revealedIdentity_11 : decode cR_revealedIdentity 11 = .ok (.istore 4, 2) := by decide +kernel
theorem dR_revealedIdentity_13 : decode cR_revealedIdentity 13 = .ok (.iload 4, 2) := by decide +kernel
theorem dR_revealedIdentity_15 : decode cR_revealedIdentity 15 = .ok (.iconst 4, 1) := by decide +kernel
theorem dR_revealedIdentity_16 : decode cR_revealedIdentity 16 = .ok (.if_icmp .ge 33, 3) := by decide +kernel
theorem dR_revealedIdentity_19 : decode cR_revealedIdentity 19 = .ok (.lload_n 2, 1) := by decide +kernel
theorem dR_revealedIdentity_20 : decode cR_revealedIdentity 20 = .ok (.iload 4, 2) := by decide +kernel
theorem dR_revealedIdentity_22 : decode cR_revealedIdentity 22 = .ok (.invokestatic 40, 3) := by decide +kernel
theorem dR_revealedIdentity_25 : decode cR_revealedIdentity 25 = .ok (.ifCond .eq 18, 3) := by decide +kernel
theorem dR_revealedIdentity_28 : decode cR_revealedIdentity 28 = .ok (.aload_n 0, 1) := by decide +kernel
theorem dR_revealedIdentity_29 : decode cR_revealedIdentity 29 = .ok (.getfield 9, 3) := by decide +kernel
theorem dR_revealedIdentity_32 : decode cR_revealedIdentity 32 = .ok (.iload 4, 2) := by decide +kernel
theorem dR_revealedIdentity_34 : decode cR_revealedIdentity 34 = .ok (.laload, 1) := by decide +kernel
theorem dR_revealedIdentity_35 : decode cR_revealedIdentity 35 = .ok (.aload_n 1, 1) := by decide +kernel
theorem dR_revealedIdentity_36 : decode cR_revealedIdentity 36 = .ok (.iload 4, 2) := by decide +kernel
theorem dR_revealedIdentity_38 : decode cR_revealedIdentity 38 = .ok (.invokevirtual 32, 3) := by decide +kernel
theorem dR_revealedIdentity_41 : decode cR_revealedIdentity 41 = .ok (.lxor, 1) := by decide +kernel
theorem dR_revealedIdentity_42 : decode cR_revealedIdentity 42 = .ok (.lreturn, 1) := by decide +kernel
theorem dR_revealedIdentity_43 : decode cR_revealedIdentity 43 = .ok (.iinc 4 1, 3) := by decide +kernel
theorem dR_revealedIdentity_46 : decode cR_revealedIdentity 46 = .ok (.goto (-33), 3) := by decide +kernel
theorem dR_revealedIdentity_49 : decode cR_revealedIdentity 49 = .ok (.ldc2_w 44, 3) := by decide +kernel
theorem dR_revealedIdentity_52 : decode cR_revealedIdentity 52 = .ok (.lreturn, 1) := by decide +kernel
abbrev yP_half : MethodName := { cls := "BlindMint$Payment", name := "half", desc := "(I)J" }
abbrev cP_half : ByteArray := prog_9_method_6_code
theorem dP_half_0 : decode cP_half 0 = .ok (.aload_n 0, 1) := by decide +kernel
theorem dP_half_1 : decode cP_half 1 = .ok (.getfield 11, 3) := by decide +kernel
theorem dP_half_4 : decode cP_half 4 = .ok (.iload_n 1, 1) := by decide +kernel
theorem dP_half_5 : decode cP_half 5 = .ok (.invokestatic 39, 3) := by decide +kernel
theorem dP_half_8 : decode cP_half 8 = .ok (.laload, 1) := by decide +kernel
theorem dP_half_9 : decode cP_half 9 = .ok (.lreturn, 1) := by decide +kernel
abbrev yR_init : MethodName := { cls := "BlindMint$Credit", name := "<init>", desc := "(LBlindMint$Payment;[JLBlindMint$Credit;)V" }
abbrev cR_init : ByteArray := prog_5_method_1_code
theorem dR_init_0 : decode cR_init 0 = .ok (.aload_n 0, 1) := by decide +kernel
theorem dR_init_1 : decode cR_init 1 = .ok (.invokespecial 3, 3) := by decide +kernel
theorem dR_init_4 : decode cR_init 4 = .ok (.aload_n 0, 1) := by decide +kernel
theorem dR_init_5 : decode cR_init 5 = .ok (.iconst 4, 1) := by decide +kernel
theorem dR_init_6 : decode cR_init 6 = .ok (.newarray .long, 2) := by decide +kernel
theorem dR_init_8 : decode cR_init 8 = .ok (.putfield 9, 3) := by decide +kernel
theorem dR_init_11 : decode cR_init 11 = .ok (.aload_n 0, 1) := by decide +kernel
theorem dR_init_12 : decode cR_init 12 = .ok (.aload_n 1, 1) := by decide +kernel
theorem dR_init_13 : decode cR_init 13 = .ok (.invokevirtual 15, 3) := by decide +kernel
theorem dR_init_16 : decode cR_init 16 = .ok (.putfield 21, 3) := by decide +kernel
theorem dR_init_19 : decode cR_init 19 = .ok (.aload_n 0, 1) := by decide +kernel
theorem dR_init_20 : decode cR_init 20 = .ok (.aload_n 2, 1) := by decide +kernel
theorem dR_init_21 : decode cR_init 21 = .ok (.putfield 24, 3) := by decide +kernel
theorem dR_init_24 : decode cR_init 24 = .ok (.aload_n 0, 1) := by decide +kernel
theorem dR_init_25 : decode cR_init 25 = .ok (.aload_n 1, 1) := by decide +kernel
theorem dR_init_26 : decode cR_init 26 = .ok (.invokevirtual 27, 3) := by decide +kernel
theorem dR_init_29 : decode cR_init 29 = .ok (.putfield 30, 3) := by decide +kernel
theorem dR_init_32 : decode cR_init 32 = .ok (.iconst 0, 1) := by decide +kernel
theorem dR_init_33 : decode cR_init 33 = .ok (.istore 4, 2) := by decide +kernel
theorem dR_init_35 : decode cR_init 35 = .ok (.iload 4, 2) := by decide +kernel
theorem dR_init_37 : decode cR_init 37 = .ok (.iconst 4, 1) := by decide +kernel
theorem dR_init_38 : decode cR_init 38 = .ok (.if_icmp .ge 22, 3) := by decide +kernel
theorem dR_init_41 : decode cR_init 41 = .ok (.aload_n 0, 1) := by decide +kernel
theorem dR_init_42 : decode cR_init 42 = .ok (.getfield 9, 3) := by decide +kernel
theorem dR_init_45 : decode cR_init 45 = .ok (.iload 4, 2) := by decide +kernel
theorem dR_init_47 : decode cR_init 47 = .ok (.aload_n 1, 1) := by decide +kernel
theorem dR_init_48 : decode cR_init 48 = .ok (.iload 4, 2) := by decide +kernel
theorem dR_init_50 : decode cR_init 50 = .ok (.invokevirtual 32, 3) := by decide +kernel
theorem dR_init_53 : decode cR_init 53 = .ok (.lastore, 1) := by decide +kernel
theorem dR_init_54 : decode cR_init 54 = .ok (.iinc 4 1, 3) := by decide +kernel
theorem dR_init_57 : decode cR_init 57 = .ok (.goto (-22), 3) := by decide +kernel
theorem dR_init_60 : decode cR_init 60 = .ok (.aload_n 0, 1) := by decide +kernel
theorem dR_init_61 : decode cR_init 61 = .ok (.aload_n 3, 1) := by decide +kernel
theorem dR_init_62 : decode cR_init 62 = .ok (.putfield 36, 3) := by decide +kernel
theorem dR_init_65 : decode cR_init 65 = .ok (.return_, 1) := by decide +kernel
