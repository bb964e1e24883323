abbrev yB_init : MethodName := { cls := "BlindMint", name := "<init>", desc := "()V" }
abbrev cB_init : ByteArray := prog_1_method_1_code
theorem dB_init_0 : decode cB_init 0 = .ok (.aload_n 0, 1) := by decide +kernel
theorem dB_init_1 : decode cB_init 1 = .ok (.invokespecial 3, 3) := by decide +kernel
theorem dB_init_4 : decode cB_init 4 = .ok (.aload_n 0, 1) := by decide +kernel
theorem dB_init_5 : decode cB_init 5 = .ok (.iconst 4, 1) := by decide +kernel
theorem dB_init_6 : decode cB_init 6 = .ok (.anewarray 9, 3) := by decide +kernel
theorem dB_init_9 : decode cB_init 9 = .ok (.putfield 11, 3) := by decide +kernel
theorem dB_init_12 : decode cB_init 12 = .ok (.aload_n 0, 1) := by decide +kernel
theorem dB_init_13 : decode cB_init 13 = .ok (.new 15, 3) := by decide +kernel
theorem dB_init_16 : decode cB_init 16 = .ok (.dup, 1) := by decide +kernel
theorem dB_init_17 : decode cB_init 17 = .ok (.invokespecial 17, 3) := by decide +kernel
theorem dB_init_20 : decode cB_init 20 = .ok (.putfield 18, 3) := by decide +kernel
theorem dB_init_23 : decode cB_init 23 = .ok (.aload_n 0, 1) := by decide +kernel
theorem dB_init_24 : decode cB_init 24 = .ok (.bipush 20, 2) := by decide +kernel
theorem dB_init_26 : decode cB_init 26 = .ok (.anewarray 22, 3) := by decide +kernel
theorem dB_init_29 : decode cB_init 29 = .ok (.putfield 24, 3) := by decide +kernel
theorem dB_init_32 : decode cB_init 32 = .ok (.aload_n 0, 1) := by decide +kernel
theorem dB_init_33 : decode cB_init 33 = .ok (.iconst 0, 1) := by decide +kernel
theorem dB_init_34 : decode cB_init 34 = .ok (.putfield 28, 3) := by decide +kernel
theorem dB_init_37 : decode cB_init 37 = .ok (.aload_n 0, 1) := by decide +kernel
theorem dB_init_38 : decode cB_init 38 = .ok (.iconst 4, 1) := by decide +kernel
theorem dB_init_39 : decode cB_init 39 = .ok (.newarray .long, 2) := by decide +kernel
theorem dB_init_41 : decode cB_init 41 = .ok (.putfield 32, 3) := by decide +kernel
theorem dB_init_44 : decode cB_init 44 = .ok (.aload_n 0, 1) := by decide +kernel
theorem dB_init_45 : decode cB_init 45 = .ok (.aconst_null, 1) := by decide +kernel
theorem dB_init_46 : decode cB_init 46 = .ok (.putfield 36, 3) := by decide +kernel
theorem dB_init_49 : decode cB_init 49 = .ok (.aload_n 0, 1) := by decide +kernel
theorem dB_init_50 : decode cB_init 50 = .ok (.iconst (-1), 1) := by decide +kernel
theorem dB_init_51 : decode cB_init 51 = .ok (.putfield 40, 3) := by decide +kernel
theorem dB_init_54 : decode cB_init 54 = .ok (.aload_n 0, 1) := by decide +kernel
theorem dB_init_55 : decode cB_init 55 = .ok (.ldc2_w 43, 3) := by decide +kernel
theorem dB_init_58 : decode cB_init 58 = .ok (.putfield 45, 3) := by decide +kernel
theorem dB_init_61 : decode cB_init 61 = .ok (.aload_n 0, 1) := by decide +kernel
theorem dB_init_62 : decode cB_init 62 = .ok (.iconst 0, 1) := by decide +kernel
theorem dB_init_63 : decode cB_init 63 = .ok (.putfield 49, 3) := by decide +kernel
theorem dB_init_66 : decode cB_init 66 = .ok (.aload_n 0, 1) := by decide +kernel
theorem dB_init_67 : decode cB_init 67 = .ok (.iconst 0, 1) := by decide +kernel
theorem dB_init_68 : decode cB_init 68 = .ok (.putfield 52, 3) := by decide +kernel
theorem dB_init_71 : decode cB_init 71 = .ok (.aload_n 0, 1) := by decide +kernel
theorem dB_init_72 : decode cB_init 72 = .ok (.iconst 0, 1) := by decide +kernel
theorem dB_init_73 : decode cB_init 73 = .ok (.putfield 55, 3) := by decide +kernel
theorem dB_init_76 : decode cB_init 76 = .ok (.aload_n 0, 1) := by decide +kernel
theorem dB_init_77 : decode cB_init 77 = .ok (.iconst 0, 1) := by decide +kernel
theorem dB_init_78 : decode cB_init 78 = .ok (.putfield 58, 3) := by decide +kernel
theorem dB_init_81 : decode cB_init 81 = .ok (.iconst 0, 1) := by decide +kernel
theorem dB_init_82 : decode cB_init 82 = .ok (.istore_n 1, 1) := by decide +kernel
theorem dB_init_83 : decode cB_init 83 = .ok (.iload_n 1, 1) := by decide +kernel
theorem dB_init_84 : decode cB_init 84 = .ok (.iconst 4, 1) := by decide +kernel
theorem dB_init_85 : decode cB_init 85 = .ok (.if_icmp .ge 22, 3) := by decide +kernel
theorem dB_init_88 : decode cB_init 88 = .ok (.aload_n 0, 1) := by decide +kernel
theorem dB_init_89 : decode cB_init 89 = .ok (.getfield 11, 3) := by decide +kernel
theorem dB_init_92 : decode cB_init 92 = .ok (.iload_n 1, 1) := by decide +kernel
theorem dB_init_93 : decode cB_init 93 = .ok (.new 9, 3) := by decide +kernel
theorem dB_init_96 : decode cB_init 96 = .ok (.dup, 1) := by decide +kernel
theorem dB_init_97 : decode cB_init 97 = .ok (.invokespecial 61, 3) := by decide +kernel
theorem dB_init_100 : decode cB_init 100 = .ok (.aastore, 1) := by decide +kernel
theorem dB_init_101 : decode cB_init 101 = .ok (.iinc 1 1, 3) := by decide +kernel
theorem dB_init_104 : decode cB_init 104 = .ok (.goto (-21), 3) := by decide +kernel
theorem dB_init_107 : decode cB_init 107 = .ok (.return_, 1) := by decide +kernel
abbrev yB_good : MethodName := { cls := "BlindMint", name := "good", desc := "(I)Z" }
abbrev cB_good : ByteArray := prog_1_method_7_code
theorem dB_good_0 : decode cB_good 0 = .ok (.aload_n 0, 1) := by decide +kernel
theorem dB_good_1 : decode cB_good 1 = .ok (.iload_n 1, 1) := by decide +kernel
theorem dB_good_2 : decode cB_good 2 = .ok (.invokevirtual 131, 3) := by decide +kernel
theorem dB_good_5 : decode cB_good 5 = .ok (.astore_n 2, 1) := by decide +kernel
theorem dB_good_6 : decode cB_good 6 = .ok (.aload_n 2, 1) := by decide +kernel
theorem dB_good_7 : decode cB_good 7 = .ok (.ifnull 15, 3) := by decide +kernel
theorem dB_good_10 : decode cB_good 10 = .ok (.aload_n 0, 1) := by decide +kernel
theorem dB_good_11 : decode cB_good 11 = .ok (.aload_n 2, 1) := by decide +kernel
theorem dB_good_12 : decode cB_good 12 = .ok (.invokevirtual 141, 3) := by decide +kernel
theorem dB_good_15 : decode cB_good 15 = .ok (.ifCond .eq 7, 3) := by decide +kernel
theorem dB_good_18 : decode cB_good 18 = .ok (.iconst 1, 1) := by decide +kernel
theorem dB_good_19 : decode cB_good 19 = .ok (.goto 4, 3) := by decide +kernel
theorem dB_good_22 : decode cB_good 22 = .ok (.iconst 0, 1) := by decide +kernel
theorem dB_good_23 : decode cB_good 23 = .ok (.ireturn, 1) := by decide +kernel
abbrev yB_findPayment : MethodName := { cls := "BlindMint", name := "findPayment", desc := "(I)LBlindMint$Payment;" }
abbrev cB_findPayment : ByteArray := prog_1_method_21_code
theorem dB_findPayment_0 : decode cB_findPayment 0 = .ok (.iload_n 1, 1) := by decide +kernel
theorem dB_findPayment_1 : decode cB_findPayment 1 = .ok (.ifCond .lt 20, 3) := by decide +kernel
theorem dB_findPayment_4 : decode cB_findPayment 4 = .ok (.iload_n 1, 1) := by decide +kernel
theorem dB_findPayment_5 : decode cB_findPayment 5 = .ok (.aload_n 0, 1) := by decide +kernel
theorem dB_findPayment_6 : decode cB_findPayment 6 = .ok (.getfield 28, 3) := by decide +kernel
theorem dB_findPayment_9 : decode cB_findPayment 9 = .ok (.if_icmp .ge 12, 3) := by decide +kernel
theorem dB_findPayment_12 : decode cB_findPayment 12 = .ok (.aload_n 0, 1) := by decide +kernel
theorem dB_findPayment_13 : decode cB_findPayment 13 = .ok (.getfield 24, 3) := by decide +kernel
theorem dB_findPayment_16 : decode cB_findPayment 16 = .ok (.iload_n 1, 1) := by decide +kernel
theorem dB_findPayment_17 : decode cB_findPayment 17 = .ok (.aaload, 1) := by decide +kernel
theorem dB_findPayment_18 : decode cB_findPayment 18 = .ok (.goto 4, 3) := by decide +kernel
theorem dB_findPayment_21 : decode cB_findPayment 21 = .ok (.aconst_null, 1) := by decide +kernel
theorem dB_findPayment_22 : decode cB_findPayment 22 = .ok (.areturn, 1) := by decide +kernel
abbrev yB_isGood : MethodName := { cls := "BlindMint", name := "isGood", desc := "(LBlindMint$Payment;)Z" }
abbrev cB_isGood : ByteArray := prog_1_method_23_code
theorem dB_isGood_0 : decode cB_isGood 0 = .ok (.aload_n 1, 1) := by decide +kernel
theorem dB_isGood_1 : decode cB_isGood 1 = .ok (.invokevirtual 145, 3) := by decide +kernel
theorem dB_isGood_4 : decode cB_isGood 4 = .ok (.invokestatic 66, 3) := by decide +kernel
theorem dB_isGood_7 : decode cB_isGood 7 = .ok (.ifCond .ne 5, 3) := by decide +kernel
theorem dB_isGood_10 : decode cB_isGood 10 = .ok (.iconst 0, 1) := by decide +kernel
theorem dB_isGood_11 : decode cB_isGood 11 = .ok (.ireturn, 1) := by decide +kernel
theorem dB_isGood_12 : decode cB_isGood 12 = .ok (.aload_n 1, 1) := by decide +kernel
theorem dB_isGood_13 : decode cB_isGood 13 = .ok (.aload_n 0, 1) := by decide +kernel
theorem dB_isGood_14 : decode cB_isGood 14 = .ok (.getfield 32, 3) := by decide +kernel
theorem dB_isGood_17 : decode cB_isGood 17 = .ok (.invokevirtual 220, 3) := by decide +kernel
theorem dB_isGood_20 : decode cB_isGood 20 = .ok (.iconst 1, 1) := by decide +kernel
theorem dB_isGood_21 : decode cB_isGood 21 = .ok (.istore_n 2, 1) := by decide +kernel
theorem dB_isGood_22 : decode cB_isGood 22 = .ok (.iload_n 2, 1) := by decide +kernel
theorem dB_isGood_23 : decode cB_isGood 23 = .ok (.iconst 4, 1) := by decide +kernel
theorem dB_isGood_24 : decode cB_isGood 24 = .ok (.if_icmp .ge 29, 3) := by decide +kernel
theorem dB_isGood_27 : decode cB_isGood 27 = .ok (.aload_n 0, 1) := by decide +kernel
theorem dB_isGood_28 : decode cB_isGood 28 = .ok (.getfield 32, 3) := by decide +kernel
theorem dB_isGood_31 : decode cB_isGood 31 = .ok (.iload_n 2, 1) := by decide +kernel
theorem dB_isGood_32 : decode cB_isGood 32 = .ok (.laload, 1) := by decide +kernel
theorem dB_isGood_33 : decode cB_isGood 33 = .ok (.aload_n 0, 1) := by decide +kernel
theorem dB_isGood_34 : decode cB_isGood 34 = .ok (.getfield 32, 3) := by decide +kernel
theorem dB_isGood_37 : decode cB_isGood 37 = .ok (.iload_n 2, 1) := by decide +kernel
theorem dB_isGood_38 : decode cB_isGood 38 = .ok (.iconst 1, 1) := by decide +kernel
theorem dB_isGood_39 : decode cB_isGood 39 = .ok (.isub, 1) := by decide +kernel
theorem dB_isGood_40 : decode cB_isGood 40 = .ok (.laload, 1) := by decide +kernel
theorem dB_isGood_41 : decode cB_isGood 41 = .ok (.lcmp, 1) := by decide +kernel
theorem dB_isGood_42 : decode cB_isGood 42 = .ok (.ifCond .ge 5, 3) := by decide +kernel
theorem dB_isGood_45 : decode cB_isGood 45 = .ok (.iconst 0, 1) := by decide +kernel
theorem dB_isGood_46 : decode cB_isGood 46 = .ok (.ireturn, 1) := by decide +kernel
theorem dB_isGood_47 : decode cB_isGood 47 = .ok (.iinc 2 1, 3) := by decide +kernel
theorem dB_isGood_50 : decode cB_isGood 50 = .ok (.goto (-28), 3) := by decide +kernel
theorem dB_isGood_53 : decode cB_isGood 53 = .ok (.aload_n 1, 1) := by decide +kernel
theorem dB_isGood_54 : decode cB_isGood 54 = .ok (.invokevirtual 145, 3) := by decide +kernel
theorem dB_isGood_57 : decode cB_isGood 57 = .ok (.aload_n 0, 1) := by decide +kernel
theorem dB_isGood_58 : decode cB_isGood 58 = .ok (.getfield 32, 3) := by decide +kernel
theorem dB_isGood_61 : decode cB_isGood 61 = .ok (.invokestatic 188, 3) := by decide +kernel
theorem dB_isGood_64 : decode cB_isGood 64 = .ok (.lstore_n 2, 1) := by decide +kernel
theorem dB_isGood_65 : decode cB_isGood 65 = .ok (.getstatic 73, 3) := by decide +kernel
theorem dB_isGood_68 : decode cB_isGood 68 = .ok (.aload_n 1, 1) := by decide +kernel
theorem dB_isGood_69 : decode cB_isGood 69 = .ok (.invokevirtual 145, 3) := by decide +kernel
theorem dB_isGood_72 : decode cB_isGood 72 = .ok (.l2i, 1) := by decide +kernel
theorem dB_isGood_73 : decode cB_isGood 73 = .ok (.aaload, 1) := by decide +kernel
theorem dB_isGood_74 : decode cB_isGood 74 = .ok (.aload_n 1, 1) := by decide +kernel
theorem dB_isGood_75 : decode cB_isGood 75 = .ok (.invokevirtual 221, 3) := by decide +kernel
theorem dB_isGood_78 : decode cB_isGood 78 = .ok (.lload_n 2, 1) := by decide +kernel
theorem dB_isGood_79 : decode cB_isGood 79 = .ok (.invokevirtual 224, 3) := by decide +kernel
theorem dB_isGood_82 : decode cB_isGood 82 = .ok (.ireturn, 1) := by decide +kernel
abbrev yB_isDenomination : MethodName := { cls := "BlindMint", name := "isDenomination", desc := "(J)Z" }
abbrev cB_isDenomination : ByteArray := prog_1_method_17_code
theorem dB_isDenomination_0 : decode cB_isDenomination 0 = .ok (.lload_n 0, 1) := by decide +kernel
theorem dB_isDenomination_1 : decode cB_isDenomination 1 = .ok (.lconst 0, 1) := by decide +kernel
theorem dB_isDenomination_2 : decode cB_isDenomination 2 = .ok (.lcmp, 1) := by decide +kernel
theorem dB_isDenomination_3 : decode cB_isDenomination 3 = .ok (.ifCond .lt 17, 3) := by decide +kernel
theorem dB_isDenomination_6 : decode cB_isDenomination 6 = .ok (.lload_n 0, 1) := by decide +kernel
theorem dB_isDenomination_7 : decode cB_isDenomination 7 = .ok (.getstatic 73, 3) := by decide +kernel
theorem dB_isDenomination_10 : decode cB_isDenomination 10 = .ok (.arraylength, 1) := by decide +kernel
theorem dB_isDenomination_11 : decode cB_isDenomination 11 = .ok (.i2l, 1) := by decide +kernel
theorem dB_isDenomination_12 : decode cB_isDenomination 12 = .ok (.lcmp, 1) := by decide +kernel
theorem dB_isDenomination_13 : decode cB_isDenomination 13 = .ok (.ifCond .ge 7, 3) := by decide +kernel
theorem dB_isDenomination_16 : decode cB_isDenomination 16 = .ok (.iconst 1, 1) := by decide +kernel
theorem dB_isDenomination_17 : decode cB_isDenomination 17 = .ok (.goto 4, 3) := by decide +kernel
theorem dB_isDenomination_20 : decode cB_isDenomination 20 = .ok (.iconst 0, 1) := by decide +kernel
theorem dB_isDenomination_21 : decode cB_isDenomination 21 = .ok (.ireturn, 1) := by decide +kernel
abbrev yB_isOne : MethodName := { cls := "BlindMint", name := "isOne", desc := "(JI)Z" }
abbrev cB_isOne : ByteArray := prog_1_method_18_code
theorem dB_isOne_0 : decode cB_isOne 0 = .ok (.lload_n 0, 1) := by decide +kernel
theorem dB_isOne_1 : decode cB_isOne 1 = .ok (.iload_n 2, 1) := by decide +kernel
theorem dB_isOne_2 : decode cB_isOne 2 = .ok (.lshr, 1) := by decide +kernel
theorem dB_isOne_3 : decode cB_isOne 3 = .ok (.lconst 1, 1) := by decide +kernel
theorem dB_isOne_4 : decode cB_isOne 4 = .ok (.land, 1) := by decide +kernel
theorem dB_isOne_5 : decode cB_isOne 5 = .ok (.lconst 1, 1) := by decide +kernel
theorem dB_isOne_6 : decode cB_isOne 6 = .ok (.lcmp, 1) := by decide +kernel
theorem dB_isOne_7 : decode cB_isOne 7 = .ok (.ifCond .ne 7, 3) := by decide +kernel
theorem dB_isOne_10 : decode cB_isOne 10 = .ok (.iconst 1, 1) := by decide +kernel
theorem dB_isOne_11 : decode cB_isOne 11 = .ok (.goto 4, 3) := by decide +kernel
theorem dB_isOne_14 : decode cB_isOne 14 = .ok (.iconst 0, 1) := by decide +kernel
theorem dB_isOne_15 : decode cB_isOne 15 = .ok (.ireturn, 1) := by decide +kernel
abbrev yB_traced : MethodName := { cls := "BlindMint", name := "traced", desc := "()I" }
abbrev cB_traced : ByteArray := prog_1_method_9_code
theorem dB_traced_0 : decode cB_traced 0 = .ok (.aload_n 0, 1) := by decide +kernel
theorem dB_traced_1 : decode cB_traced 1 = .ok (.getfield 40, 3) := by decide +kernel
theorem dB_traced_4 : decode cB_traced 4 = .ok (.ireturn, 1) := by decide +kernel
abbrev yB_coins : MethodName := { cls := "BlindMint", name := "coins", desc := "(I)I" }
abbrev cB_coins : ByteArray := prog_1_method_11_code
theorem dB_coins_0 : decode cB_coins 0 = .ok (.iload_n 1, 1) := by decide +kernel
theorem dB_coins_1 : decode cB_coins 1 = .ok (.invokestatic 62, 3) := by decide +kernel
theorem dB_coins_4 : decode cB_coins 4 = .ok (.ifCond .eq 15, 3) := by decide +kernel
theorem dB_coins_7 : decode cB_coins 7 = .ok (.aload_n 0, 1) := by decide +kernel
theorem dB_coins_8 : decode cB_coins 8 = .ok (.getfield 11, 3) := by decide +kernel
theorem dB_coins_11 : decode cB_coins 11 = .ok (.iload_n 1, 1) := by decide +kernel
theorem dB_coins_12 : decode cB_coins 12 = .ok (.aaload, 1) := by decide +kernel
theorem dB_coins_13 : decode cB_coins 13 = .ok (.getfield 108, 3) := by decide +kernel
theorem dB_coins_16 : decode cB_coins 16 = .ok (.goto 4, 3) := by decide +kernel
theorem dB_coins_19 : decode cB_coins 19 = .ok (.iconst (-1), 1) := by decide +kernel
theorem dB_coins_20 : decode cB_coins 20 = .ok (.ireturn, 1) := by decide +kernel
abbrev yB_isAccount : MethodName := { cls := "BlindMint", name := "isAccount", desc := "(I)Z" }
abbrev cB_isAccount : ByteArray := prog_1_method_16_code
theorem dB_isAccount_0 : decode cB_isAccount 0 = .ok (.iload_n 0, 1) := by decide +kernel
theorem dB_isAccount_1 : decode cB_isAccount 1 = .ok (.ifCond .lt 12, 3) := by decide +kernel
theorem dB_isAccount_4 : decode cB_isAccount 4 = .ok (.iload_n 0, 1) := by decide +kernel
theorem dB_isAccount_5 : decode cB_isAccount 5 = .ok (.iconst 4, 1) := by decide +kernel
theorem dB_isAccount_6 : decode cB_isAccount 6 = .ok (.if_icmp .ge 7, 3) := by decide +kernel
theorem dB_isAccount_9 : decode cB_isAccount 9 = .ok (.iconst 1, 1) := by decide +kernel
theorem dB_isAccount_10 : decode cB_isAccount 10 = .ok (.goto 4, 3) := by decide +kernel
theorem dB_isAccount_13 : decode cB_isAccount 13 = .ok (.iconst 0, 1) := by decide +kernel
theorem dB_isAccount_14 : decode cB_isAccount 14 = .ok (.ireturn, 1) := by decide +kernel
abbrev yB_blinded : MethodName := { cls := "BlindMint", name := "blinded", desc := "()J" }
abbrev cB_blinded : ByteArray := prog_1_method_14_code
theorem dB_blinded_0 : decode cB_blinded 0 = .ok (.aload_n 0, 1) := by decide +kernel
theorem dB_blinded_1 : decode cB_blinded 1 = .ok (.getfield 45, 3) := by decide +kernel
theorem dB_blinded_4 : decode cB_blinded 4 = .ok (.lreturn, 1) := by decide +kernel
abbrev yB_count : MethodName := { cls := "BlindMint", name := "count", desc := "(I)I" }
abbrev cB_count : ByteArray := prog_1_method_15_code
theorem dB_count_0 : decode cB_count 0 = .ok (.iload_n 1, 1) := by decide +kernel
theorem dB_count_1 : decode cB_count 1 = .ok (.tableswitch 51 0 3 #[31, 36, 41, 46], 31) := by decide +kernel
theorem dB_count_32 : decode cB_count 32 = .ok (.aload_n 0, 1) := by decide +kernel
theorem dB_count_33 : decode cB_count 33 = .ok (.getfield 49, 3) := by decide +kernel
theorem dB_count_36 : decode cB_count 36 = .ok (.ireturn, 1) := by decide +kernel
theorem dB_count_37 : decode cB_count 37 = .ok (.aload_n 0, 1) := by decide +kernel
theorem dB_count_38 : decode cB_count 38 = .ok (.getfield 52, 3) := by decide +kernel
theorem dB_count_41 : decode cB_count 41 = .ok (.ireturn, 1) := by decide +kernel
theorem dB_count_42 : decode cB_count 42 = .ok (.aload_n 0, 1) := by decide +kernel
theorem dB_count_43 : decode cB_count 43 = .ok (.getfield 55, 3) := by decide +kernel
theorem dB_count_46 : decode cB_count 46 = .ok (.ireturn, 1) := by decide +kernel
theorem dB_count_47 : decode cB_count 47 = .ok (.aload_n 0, 1) := by decide +kernel
theorem dB_count_48 : decode cB_count 48 = .ok (.getfield 58, 3) := by decide +kernel
theorem dB_count_51 : decode cB_count 51 = .ok (.ireturn, 1) := by decide +kernel
theorem dB_count_52 : decode cB_count 52 = .ok (.iconst (-1), 1) := by decide +kernel
theorem dB_count_53 : decode cB_count 53 = .ok (.ireturn, 1) := by decide +kernel
abbrev yB_withdraw : MethodName := { cls := "BlindMint", name := "withdraw", desc := "(IIJI)I" }
abbrev cB_withdraw : ByteArray := prog_1_method_2_code
theorem dB_withdraw_0 : decode cB_withdraw 0 = .ok (.iload_n 1, 1) := by decide +kernel
theorem dB_withdraw_1 : decode cB_withdraw 1 = .ok (.invokestatic 62, 3) := by decide +kernel
theorem dB_withdraw_4 : decode cB_withdraw 4 = .ok (.ifCond .eq 23, 3) := by decide +kernel
theorem dB_withdraw_7 : decode cB_withdraw 7 = .ok (.iload_n 2, 1) := by decide +kernel
theorem dB_withdraw_8 : decode cB_withdraw 8 = .ok (.i2l, 1) := by decide +kernel
theorem dB_withdraw_9 : decode cB_withdraw 9 = .ok (.invokestatic 66, 3) := by decide +kernel
theorem dB_withdraw_12 : decode cB_withdraw 12 = .ok (.ifCond .eq 15, 3) := by decide +kernel
theorem dB_withdraw_15 : decode cB_withdraw 15 = .ok (.iload 5, 2) := by decide +kernel
theorem dB_withdraw_17 : decode cB_withdraw 17 = .ok (.ifCond .lt 10, 3) := by decide +kernel
theorem dB_withdraw_20 : decode cB_withdraw 20 = .ok (.iload 5, 2) := by decide +kernel
theorem dB_withdraw_22 : decode cB_withdraw 22 = .ok (.bipush 63, 2) := by decide +kernel
theorem dB_withdraw_24 : decode cB_withdraw 24 = .ok (.if_icmp .le 11, 3) := by decide +kernel
theorem dB_withdraw_27 : decode cB_withdraw 27 = .ok (.new 70, 3) := by decide +kernel
theorem dB_withdraw_30 : decode cB_withdraw 30 = .ok (.dup, 1) := by decide +kernel
theorem dB_withdraw_31 : decode cB_withdraw 31 = .ok (.invokespecial 72, 3) := by decide +kernel
theorem dB_withdraw_34 : decode cB_withdraw 34 = .ok (.athrow, 1) := by decide +kernel
theorem dB_withdraw_35 : decode cB_withdraw 35 = .ok (.aload_n 0, 1) := by decide +kernel
theorem dB_withdraw_36 : decode cB_withdraw 36 = .ok (.getfield 11, 3) := by decide +kernel
theorem dB_withdraw_39 : decode cB_withdraw 39 = .ok (.iload_n 1, 1) := by decide +kernel
theorem dB_withdraw_40 : decode cB_withdraw 40 = .ok (.aaload, 1) := by decide +kernel
theorem dB_withdraw_41 : decode cB_withdraw 41 = .ok (.astore 6, 2) := by decide +kernel
theorem dB_withdraw_43 : decode cB_withdraw 43 = .ok (.getstatic 73, 3) := by decide +kernel
theorem dB_withdraw_46 : decode cB_withdraw 46 = .ok (.iload_n 2, 1) := by decide +kernel
theorem dB_withdraw_47 : decode cB_withdraw 47 = .ok (.aaload, 1) := by decide +kernel
theorem dB_withdraw_48 : decode cB_withdraw 48 = .ok (.getfield 77, 3) := by decide +kernel
theorem dB_withdraw_51 : decode cB_withdraw 51 = .ok (.istore 7, 2) := by decide +kernel
theorem dB_withdraw_53 : decode cB_withdraw 53 = .ok (.aload 6, 2) := by decide +kernel
theorem dB_withdraw_55 : decode cB_withdraw 55 = .ok (.getfield 82, 3) := by decide +kernel
theorem dB_withdraw_58 : decode cB_withdraw 58 = .ok (.iload 7, 2) := by decide +kernel
theorem dB_withdraw_60 : decode cB_withdraw 60 = .ok (.if_icmp .lt 11, 3) := by decide +kernel
theorem dB_withdraw_63 : decode cB_withdraw 63 = .ok (.aload 6, 2) := by decide +kernel
theorem dB_withdraw_65 : decode cB_withdraw 65 = .ok (.invokevirtual 85, 3) := by decide +kernel
theorem dB_withdraw_68 : decode cB_withdraw 68 = .ok (.ifCond .eq 11, 3) := by decide +kernel
theorem dB_withdraw_71 : decode cB_withdraw 71 = .ok (.new 89, 3) := by decide +kernel
theorem dB_withdraw_74 : decode cB_withdraw 74 = .ok (.dup, 1) := by decide +kernel
theorem dB_withdraw_75 : decode cB_withdraw 75 = .ok (.invokespecial 91, 3) := by decide +kernel
theorem dB_withdraw_78 : decode cB_withdraw 78 = .ok (.athrow, 1) := by decide +kernel
theorem dB_withdraw_79 : decode cB_withdraw 79 = .ok (.sipush 1000, 3) := by decide +kernel
theorem dB_withdraw_82 : decode cB_withdraw 82 = .ok (.iload_n 1, 1) := by decide +kernel
theorem dB_withdraw_83 : decode cB_withdraw 83 = .ok (.iadd, 1) := by decide +kernel
theorem dB_withdraw_84 : decode cB_withdraw 84 = .ok (.i2l, 1) := by decide +kernel
theorem dB_withdraw_85 : decode cB_withdraw 85 = .ok (.lstore 8, 2) := by decide +kernel
theorem dB_withdraw_87 : decode cB_withdraw 87 = .ok (.aload_n 0, 1) := by decide +kernel
theorem dB_withdraw_88 : decode cB_withdraw 88 = .ok (.getfield 18, 3) := by decide +kernel
theorem dB_withdraw_91 : decode cB_withdraw 91 = .ok (.lload_n 3, 1) := by decide +kernel
theorem dB_withdraw_92 : decode cB_withdraw 92 = .ok (.lload 8, 2) := by decide +kernel
theorem dB_withdraw_94 : decode cB_withdraw 94 = .ok (.iload 5, 2) := by decide +kernel
theorem dB_withdraw_96 : decode cB_withdraw 96 = .ok (.invokevirtual 92, 3) := by decide +kernel
theorem dB_withdraw_99 : decode cB_withdraw 99 = .ok (.aload_n 0, 1) := by decide +kernel
theorem dB_withdraw_100 : decode cB_withdraw 100 = .ok (.getfield 18, 3) := by decide +kernel
theorem dB_withdraw_103 : decode cB_withdraw 103 = .ok (.lload 8, 2) := by decide +kernel
theorem dB_withdraw_105 : decode cB_withdraw 105 = .ok (.invokevirtual 96, 3) := by decide +kernel
theorem dB_withdraw_108 : decode cB_withdraw 108 = .ok (.istore 10, 2) := by decide +kernel
theorem dB_withdraw_110 : decode cB_withdraw 110 = .ok (.iload 10, 2) := by decide +kernel
theorem dB_withdraw_112 : decode cB_withdraw 112 = .ok (.ifCond .le 33, 3) := by decide +kernel
theorem dB_withdraw_115 : decode cB_withdraw 115 = .ok (.aload 6, 2) := by decide +kernel
theorem dB_withdraw_117 : decode cB_withdraw 117 = .ok (.dup, 1) := by decide +kernel
theorem dB_withdraw_118 : decode cB_withdraw 118 = .ok (.getfield 82, 3) := by decide +kernel
theorem dB_withdraw_121 : decode cB_withdraw 121 = .ok (.iconst 1, 1) := by decide +kernel
theorem dB_withdraw_122 : decode cB_withdraw 122 = .ok (.isub, 1) := by decide +kernel
theorem dB_withdraw_123 : decode cB_withdraw 123 = .ok (.putfield 82, 3) := by decide +kernel
theorem dB_withdraw_126 : decode cB_withdraw 126 = .ok (.aload_n 0, 1) := by decide +kernel
theorem dB_withdraw_127 : decode cB_withdraw 127 = .ok (.dup, 1) := by decide +kernel
theorem dB_withdraw_128 : decode cB_withdraw 128 = .ok (.getfield 55, 3) := by decide +kernel
theorem dB_withdraw_131 : decode cB_withdraw 131 = .ok (.iload 10, 2) := by decide +kernel
theorem dB_withdraw_133 : decode cB_withdraw 133 = .ok (.iadd, 1) := by decide +kernel
theorem dB_withdraw_134 : decode cB_withdraw 134 = .ok (.putfield 55, 3) := by decide +kernel
theorem dB_withdraw_137 : decode cB_withdraw 137 = .ok (.new 89, 3) := by decide +kernel
theorem dB_withdraw_140 : decode cB_withdraw 140 = .ok (.dup, 1) := by decide +kernel
theorem dB_withdraw_141 : decode cB_withdraw 141 = .ok (.invokespecial 91, 3) := by decide +kernel
theorem dB_withdraw_144 : decode cB_withdraw 144 = .ok (.athrow, 1) := by decide +kernel
theorem dB_withdraw_145 : decode cB_withdraw 145 = .ok (.aload 6, 2) := by decide +kernel
theorem dB_withdraw_147 : decode cB_withdraw 147 = .ok (.dup, 1) := by decide +kernel
theorem dB_withdraw_148 : decode cB_withdraw 148 = .ok (.getfield 82, 3) := by decide +kernel
theorem dB_withdraw_151 : decode cB_withdraw 151 = .ok (.iload 7, 2) := by decide +kernel
theorem dB_withdraw_153 : decode cB_withdraw 153 = .ok (.isub, 1) := by decide +kernel
theorem dB_withdraw_154 : decode cB_withdraw 154 = .ok (.putfield 82, 3) := by decide +kernel
theorem dB_withdraw_157 : decode cB_withdraw 157 = .ok (.aload_n 0, 1) := by decide +kernel
theorem dB_withdraw_158 : decode cB_withdraw 158 = .ok (.dup, 1) := by decide +kernel
theorem dB_withdraw_159 : decode cB_withdraw 159 = .ok (.getfield 49, 3) := by decide +kernel
theorem dB_withdraw_162 : decode cB_withdraw 162 = .ok (.iconst 1, 1) := by decide +kernel
theorem dB_withdraw_163 : decode cB_withdraw 163 = .ok (.iadd, 1) := by decide +kernel
theorem dB_withdraw_164 : decode cB_withdraw 164 = .ok (.putfield 49, 3) := by decide +kernel
theorem dB_withdraw_167 : decode cB_withdraw 167 = .ok (.aload 6, 2) := by decide +kernel
theorem dB_withdraw_169 : decode cB_withdraw 169 = .ok (.aload_n 0, 1) := by decide +kernel
theorem dB_withdraw_170 : decode cB_withdraw 170 = .ok (.iload_n 2, 1) := by decide +kernel
theorem dB_withdraw_171 : decode cB_withdraw 171 = .ok (.lload_n 3, 1) := by decide +kernel
theorem dB_withdraw_172 : decode cB_withdraw 172 = .ok (.invokevirtual 100, 3) := by decide +kernel
theorem dB_withdraw_175 : decode cB_withdraw 175 = .ok (.invokevirtual 104, 3) := by decide +kernel
theorem dB_withdraw_178 : decode cB_withdraw 178 = .ok (.ireturn, 1) := by decide +kernel
abbrev yB_makeCoin : MethodName := { cls := "BlindMint", name := "makeCoin", desc := "(IJ)LBlindMint$Coin;" }
abbrev cB_makeCoin : ByteArray := prog_1_method_22_code
theorem dB_makeCoin_0 : decode cB_makeCoin 0 = .ok (.getstatic 73, 3) := by decide +kernel
theorem dB_makeCoin_3 : decode cB_makeCoin 3 = .ok (.iload_n 1, 1) := by decide +kernel
theorem dB_makeCoin_4 : decode cB_makeCoin 4 = .ok (.aaload, 1) := by decide +kernel
theorem dB_makeCoin_5 : decode cB_makeCoin 5 = .ok (.astore 4, 2) := by decide +kernel
theorem dB_makeCoin_7 : decode cB_makeCoin 7 = .ok (.aload_n 0, 1) := by decide +kernel
theorem dB_makeCoin_8 : decode cB_makeCoin 8 = .ok (.getfield 18, 3) := by decide +kernel
theorem dB_makeCoin_11 : decode cB_makeCoin 11 = .ok (.aload_n 0, 1) := by decide +kernel
theorem dB_makeCoin_12 : decode cB_makeCoin 12 = .ok (.getfield 32, 3) := by decide +kernel
theorem dB_makeCoin_15 : decode cB_makeCoin 15 = .ok (.invokevirtual 184, 3) := by decide +kernel
theorem dB_makeCoin_18 : decode cB_makeCoin 18 = .ok (.iload_n 1, 1) := by decide +kernel
theorem dB_makeCoin_19 : decode cB_makeCoin 19 = .ok (.i2l, 1) := by decide +kernel
theorem dB_makeCoin_20 : decode cB_makeCoin 20 = .ok (.aload_n 0, 1) := by decide +kernel
theorem dB_makeCoin_21 : decode cB_makeCoin 21 = .ok (.getfield 32, 3) := by decide +kernel
theorem dB_makeCoin_24 : decode cB_makeCoin 24 = .ok (.invokestatic 188, 3) := by decide +kernel
theorem dB_makeCoin_27 : decode cB_makeCoin 27 = .ok (.lstore 5, 2) := by decide +kernel
theorem dB_makeCoin_29 : decode cB_makeCoin 29 = .ok (.aload 4, 2) := by decide +kernel
theorem dB_makeCoin_31 : decode cB_makeCoin 31 = .ok (.lload_n 2, 1) := by decide +kernel
theorem dB_makeCoin_32 : decode cB_makeCoin 32 = .ok (.ldc2_w 194, 3) := by decide +kernel
theorem dB_makeCoin_35 : decode cB_makeCoin 35 = .ok (.invokestatic 196, 3) := by decide +kernel
theorem dB_makeCoin_38 : decode cB_makeCoin 38 = .ok (.invokevirtual 200, 3) := by decide +kernel
theorem dB_makeCoin_41 : decode cB_makeCoin 41 = .ok (.lstore 7, 2) := by decide +kernel
theorem dB_makeCoin_43 : decode cB_makeCoin 43 = .ok (.aload_n 0, 1) := by decide +kernel
theorem dB_makeCoin_44 : decode cB_makeCoin 44 = .ok (.aload 4, 2) := by decide +kernel
theorem dB_makeCoin_46 : decode cB_makeCoin 46 = .ok (.lload 5, 2) := by decide +kernel
theorem dB_makeCoin_48 : decode cB_makeCoin 48 = .ok (.lload 7, 2) := by decide +kernel
theorem dB_makeCoin_50 : decode cB_makeCoin 50 = .ok (.invokevirtual 204, 3) := by decide +kernel
theorem dB_makeCoin_53 : decode cB_makeCoin 53 = .ok (.putfield 45, 3) := by decide +kernel
theorem dB_makeCoin_56 : decode cB_makeCoin 56 = .ok (.aload 4, 2) := by decide +kernel
theorem dB_makeCoin_58 : decode cB_makeCoin 58 = .ok (.aload_n 0, 1) := by decide +kernel
theorem dB_makeCoin_59 : decode cB_makeCoin 59 = .ok (.getfield 45, 3) := by decide +kernel
theorem dB_makeCoin_62 : decode cB_makeCoin 62 = .ok (.invokevirtual 207, 3) := by decide +kernel
theorem dB_makeCoin_65 : decode cB_makeCoin 65 = .ok (.lstore 9, 2) := by decide +kernel
theorem dB_makeCoin_67 : decode cB_makeCoin 67 = .ok (.new 123, 3) := by decide +kernel
theorem dB_makeCoin_70 : decode cB_makeCoin 70 = .ok (.dup, 1) := by decide +kernel
theorem dB_makeCoin_71 : decode cB_makeCoin 71 = .ok (.iload_n 1, 1) := by decide +kernel
theorem dB_makeCoin_72 : decode cB_makeCoin 72 = .ok (.lload 5, 2) := by decide +kernel
theorem dB_makeCoin_74 : decode cB_makeCoin 74 = .ok (.aload 4, 2) := by decide +kernel
theorem dB_makeCoin_76 : decode cB_makeCoin 76 = .ok (.lload 9, 2) := by decide +kernel
theorem dB_makeCoin_78 : decode cB_makeCoin 78 = .ok (.lload 7, 2) := by decide +kernel
theorem dB_makeCoin_80 : decode cB_makeCoin 80 = .ok (.invokevirtual 210, 3) := by decide +kernel
theorem dB_makeCoin_83 : decode cB_makeCoin 83 = .ok (.aload_n 0, 1) := by decide +kernel
theorem dB_makeCoin_84 : decode cB_makeCoin 84 = .ok (.getfield 18, 3) := by decide +kernel
theorem dB_makeCoin_87 : decode cB_makeCoin 87 = .ok (.getfield 213, 3) := by decide +kernel
theorem dB_makeCoin_90 : decode cB_makeCoin 90 = .ok (.invokespecial 217, 3) := by decide +kernel
theorem dB_makeCoin_93 : decode cB_makeCoin 93 = .ok (.areturn, 1) := by decide +kernel
abbrev yB_choose : MethodName := { cls := "BlindMint", name := "choose", desc := "(II)I" }
abbrev cB_choose : ByteArray := prog_1_method_3_code
theorem dB_choose_0 : decode cB_choose 0 = .ok (.iload_n 1, 1) := by decide +kernel
theorem dB_choose_1 : decode cB_choose 1 = .ok (.invokestatic 62, 3) := by decide +kernel
theorem dB_choose_4 : decode cB_choose 4 = .ok (.ifCond .eq 8, 3) := by decide +kernel
theorem dB_choose_7 : decode cB_choose 7 = .ok (.iload_n 2, 1) := by decide +kernel
theorem dB_choose_8 : decode cB_choose 8 = .ok (.iconst 1, 1) := by decide +kernel
theorem dB_choose_9 : decode cB_choose 9 = .ok (.if_icmp .ge 11, 3) := by decide +kernel
theorem dB_choose_12 : decode cB_choose 12 = .ok (.new 70, 3) := by decide +kernel
theorem dB_choose_15 : decode cB_choose 15 = .ok (.dup, 1) := by decide +kernel
theorem dB_choose_16 : decode cB_choose 16 = .ok (.invokespecial 72, 3) := by decide +kernel
theorem dB_choose_19 : decode cB_choose 19 = .ok (.athrow, 1) := by decide +kernel
theorem dB_choose_20 : decode cB_choose 20 = .ok (.aload_n 0, 1) := by decide +kernel
theorem dB_choose_21 : decode cB_choose 21 = .ok (.getfield 11, 3) := by decide +kernel
theorem dB_choose_24 : decode cB_choose 24 = .ok (.iload_n 1, 1) := by decide +kernel
theorem dB_choose_25 : decode cB_choose 25 = .ok (.aaload, 1) := by decide +kernel
theorem dB_choose_26 : decode cB_choose 26 = .ok (.astore_n 3, 1) := by decide +kernel
theorem dB_choose_27 : decode cB_choose 27 = .ok (.iconst 0, 1) := by decide +kernel
theorem dB_choose_28 : decode cB_choose 28 = .ok (.istore 4, 2) := by decide +kernel
theorem dB_choose_30 : decode cB_choose 30 = .ok (.iload_n 2, 1) := by decide +kernel
theorem dB_choose_31 : decode cB_choose 31 = .ok (.istore 5, 2) := by decide +kernel
theorem dB_choose_33 : decode cB_choose 33 = .ok (.getstatic 73, 3) := by decide +kernel
theorem dB_choose_36 : decode cB_choose 36 = .ok (.arraylength, 1) := by decide +kernel
theorem dB_choose_37 : decode cB_choose 37 = .ok (.iconst 1, 1) := by decide +kernel
theorem dB_choose_38 : decode cB_choose 38 = .ok (.isub, 1) := by decide +kernel
theorem dB_choose_39 : decode cB_choose 39 = .ok (.istore 6, 2) := by decide +kernel
theorem dB_choose_41 : decode cB_choose 41 = .ok (.iload 6, 2) := by decide +kernel
theorem dB_choose_43 : decode cB_choose 43 = .ok (.ifCond .lt 72, 3) := by decide +kernel
theorem dB_choose_46 : decode cB_choose 46 = .ok (.getstatic 73, 3) := by decide +kernel
theorem dB_choose_49 : decode cB_choose 49 = .ok (.iload 6, 2) := by decide +kernel
theorem dB_choose_51 : decode cB_choose 51 = .ok (.aaload, 1) := by decide +kernel
theorem dB_choose_52 : decode cB_choose 52 = .ok (.getfield 77, 3) := by decide +kernel
theorem dB_choose_55 : decode cB_choose 55 = .ok (.istore 7, 2) := by decide +kernel
theorem dB_choose_57 : decode cB_choose 57 = .ok (.iconst 0, 1) := by decide +kernel
theorem dB_choose_58 : decode cB_choose 58 = .ok (.istore 8, 2) := by decide +kernel
theorem dB_choose_60 : decode cB_choose 60 = .ok (.iload 8, 2) := by decide +kernel
theorem dB_choose_62 : decode cB_choose 62 = .ok (.aload_n 3, 1) := by decide +kernel
theorem dB_choose_63 : decode cB_choose 63 = .ok (.getfield 108, 3) := by decide +kernel
theorem dB_choose_66 : decode cB_choose 66 = .ok (.if_icmp .ge 43, 3) := by decide +kernel
theorem dB_choose_69 : decode cB_choose 69 = .ok (.aload_n 3, 1) := by decide +kernel
theorem dB_choose_70 : decode cB_choose 70 = .ok (.iload 8, 2) := by decide +kernel
theorem dB_choose_72 : decode cB_choose 72 = .ok (.iload 6, 2) := by decide +kernel
theorem dB_choose_74 : decode cB_choose 74 = .ok (.invokevirtual 111, 3) := by decide +kernel
theorem dB_choose_77 : decode cB_choose 77 = .ok (.ifCond .eq 26, 3) := by decide +kernel
theorem dB_choose_80 : decode cB_choose 80 = .ok (.iload 7, 2) := by decide +kernel
theorem dB_choose_82 : decode cB_choose 82 = .ok (.iload 5, 2) := by decide +kernel
theorem dB_choose_84 : decode cB_choose 84 = .ok (.if_icmp .gt 19, 3) := by decide +kernel
theorem dB_choose_87 : decode cB_choose 87 = .ok (.iload 4, 2) := by decide +kernel
theorem dB_choose_89 : decode cB_choose 89 = .ok (.iconst 1, 1) := by decide +kernel
theorem dB_choose_90 : decode cB_choose 90 = .ok (.iload 8, 2) := by decide +kernel
theorem dB_choose_92 : decode cB_choose 92 = .ok (.ishl, 1) := by decide +kernel
theorem dB_choose_93 : decode cB_choose 93 = .ok (.ior, 1) := by decide +kernel
theorem dB_choose_94 : decode cB_choose 94 = .ok (.istore 4, 2) := by decide +kernel
theorem dB_choose_96 : decode cB_choose 96 = .ok (.iload 5, 2) := by decide +kernel
theorem dB_choose_98 : decode cB_choose 98 = .ok (.iload 7, 2) := by decide +kernel
theorem dB_choose_100 : decode cB_choose 100 = .ok (.isub, 1) := by decide +kernel
theorem dB_choose_101 : decode cB_choose 101 = .ok (.istore 5, 2) := by decide +kernel
theorem dB_choose_103 : decode cB_choose 103 = .ok (.iinc 8 1, 3) := by decide +kernel
theorem dB_choose_106 : decode cB_choose 106 = .ok (.goto (-46), 3) := by decide +kernel
theorem dB_choose_109 : decode cB_choose 109 = .ok (.iinc 6 (-1), 3) := by decide +kernel
theorem dB_choose_112 : decode cB_choose 112 = .ok (.goto (-71), 3) := by decide +kernel
theorem dB_choose_115 : decode cB_choose 115 = .ok (.iload 5, 2) := by decide +kernel
theorem dB_choose_117 : decode cB_choose 117 = .ok (.ifCond .eq 11, 3) := by decide +kernel
theorem dB_choose_120 : decode cB_choose 120 = .ok (.new 115, 3) := by decide +kernel
theorem dB_choose_123 : decode cB_choose 123 = .ok (.dup, 1) := by decide +kernel
theorem dB_choose_124 : decode cB_choose 124 = .ok (.invokespecial 117, 3) := by decide +kernel
theorem dB_choose_127 : decode cB_choose 127 = .ok (.athrow, 1) := by decide +kernel
theorem dB_choose_128 : decode cB_choose 128 = .ok (.iload 4, 2) := by decide +kernel
theorem dB_choose_130 : decode cB_choose 130 = .ok (.ireturn, 1) := by decide +kernel
abbrev yB_spend : MethodName := { cls := "BlindMint", name := "spend", desc := "(IIII)I" }
abbrev cB_spend : ByteArray := prog_1_method_4_code
theorem dB_spend_0 : decode cB_spend 0 = .ok (.aload_n 0, 1) := by decide +kernel
theorem dB_spend_1 : decode cB_spend 1 = .ok (.iload_n 1, 1) := by decide +kernel
theorem dB_spend_2 : decode cB_spend 2 = .ok (.iload_n 2, 1) := by decide +kernel
theorem dB_spend_3 : decode cB_spend 3 = .ok (.invokevirtual 118, 3) := by decide +kernel
theorem dB_spend_6 : decode cB_spend 6 = .ok (.astore 5, 2) := by decide +kernel
theorem dB_spend_8 : decode cB_spend 8 = .ok (.aload 5, 2) := by decide +kernel
theorem dB_spend_10 : decode cB_spend 10 = .ok (.ifnonnull 11, 3) := by decide +kernel
theorem dB_spend_13 : decode cB_spend 13 = .ok (.new 70, 3) := by decide +kernel
theorem dB_spend_16 : decode cB_spend 16 = .ok (.dup, 1) := by decide +kernel
theorem dB_spend_17 : decode cB_spend 17 = .ok (.invokespecial 72, 3) := by decide +kernel
theorem dB_spend_20 : decode cB_spend 20 = .ok (.athrow, 1) := by decide +kernel
theorem dB_spend_21 : decode cB_spend 21 = .ok (.aload_n 0, 1) := by decide +kernel
theorem dB_spend_22 : decode cB_spend 22 = .ok (.getfield 28, 3) := by decide +kernel
theorem dB_spend_25 : decode cB_spend 25 = .ok (.bipush 20, 2) := by decide +kernel
theorem dB_spend_27 : decode cB_spend 27 = .ok (.if_icmp .lt 11, 3) := by decide +kernel
theorem dB_spend_30 : decode cB_spend 30 = .ok (.new 89, 3) := by decide +kernel
theorem dB_spend_33 : decode cB_spend 33 = .ok (.dup, 1) := by decide +kernel
theorem dB_spend_34 : decode cB_spend 34 = .ok (.invokespecial 91, 3) := by decide +kernel
theorem dB_spend_37 : decode cB_spend 37 = .ok (.athrow, 1) := by decide +kernel
theorem dB_spend_38 : decode cB_spend 38 = .ok (.aload 5, 2) := by decide +kernel
theorem dB_spend_40 : decode cB_spend 40 = .ok (.iconst 1, 1) := by decide +kernel
theorem dB_spend_41 : decode cB_spend 41 = .ok (.putfield 122, 3) := by decide +kernel
theorem dB_spend_44 : decode cB_spend 44 = .ok (.aload_n 0, 1) := by decide +kernel
theorem dB_spend_45 : decode cB_spend 45 = .ok (.getfield 24, 3) := by decide +kernel
theorem dB_spend_48 : decode cB_spend 48 = .ok (.aload_n 0, 1) := by decide +kernel
theorem dB_spend_49 : decode cB_spend 49 = .ok (.getfield 28, 3) := by decide +kernel
theorem dB_spend_52 : decode cB_spend 52 = .ok (.new 22, 3) := by decide +kernel
theorem dB_spend_55 : decode cB_spend 55 = .ok (.dup, 1) := by decide +kernel
theorem dB_spend_56 : decode cB_spend 56 = .ok (.aload 5, 2) := by decide +kernel
theorem dB_spend_58 : decode cB_spend 58 = .ok (.iload_n 3, 1) := by decide +kernel
theorem dB_spend_59 : decode cB_spend 59 = .ok (.iload 4, 2) := by decide +kernel
theorem dB_spend_61 : decode cB_spend 61 = .ok (.invokespecial 128, 3) := by decide +kernel
theorem dB_spend_64 : decode cB_spend 64 = .ok (.aastore, 1) := by decide +kernel
theorem dB_spend_65 : decode cB_spend 65 = .ok (.aload_n 0, 1) := by decide +kernel
theorem dB_spend_66 : decode cB_spend 66 = .ok (.dup, 1) := by decide +kernel
theorem dB_spend_67 : decode cB_spend 67 = .ok (.getfield 28, 3) := by decide +kernel
theorem dB_spend_70 : decode cB_spend 70 = .ok (.iconst 1, 1) := by decide +kernel
theorem dB_spend_71 : decode cB_spend 71 = .ok (.iadd, 1) := by decide +kernel
theorem dB_spend_72 : decode cB_spend 72 = .ok (.putfield 28, 3) := by decide +kernel
theorem dB_spend_75 : decode cB_spend 75 = .ok (.aload_n 0, 1) := by decide +kernel
theorem dB_spend_76 : decode cB_spend 76 = .ok (.getfield 28, 3) := by decide +kernel
theorem dB_spend_79 : decode cB_spend 79 = .ok (.iconst 1, 1) := by decide +kernel
theorem dB_spend_80 : decode cB_spend 80 = .ok (.isub, 1) := by decide +kernel
theorem dB_spend_81 : decode cB_spend 81 = .ok (.ireturn, 1) := by decide +kernel
abbrev yB_findCoin : MethodName := { cls := "BlindMint", name := "findCoin", desc := "(II)LBlindMint$Coin;" }
abbrev cB_findCoin : ByteArray := prog_1_method_20_code
theorem dB_findCoin_0 : decode cB_findCoin 0 = .ok (.iload_n 1, 1) := by decide +kernel
theorem dB_findCoin_1 : decode cB_findCoin 1 = .ok (.invokestatic 62, 3) := by decide +kernel
theorem dB_findCoin_4 : decode cB_findCoin 4 = .ok (.ifCond .eq 20, 3) := by decide +kernel
theorem dB_findCoin_7 : decode cB_findCoin 7 = .ok (.iload_n 2, 1) := by decide +kernel
theorem dB_findCoin_8 : decode cB_findCoin 8 = .ok (.ifCond .lt 16, 3) := by decide +kernel
theorem dB_findCoin_11 : decode cB_findCoin 11 = .ok (.iload_n 2, 1) := by decide +kernel
theorem dB_findCoin_12 : decode cB_findCoin 12 = .ok (.aload_n 0, 1) := by decide +kernel
theorem dB_findCoin_13 : decode cB_findCoin 13 = .ok (.getfield 11, 3) := by decide +kernel
theorem dB_findCoin_16 : decode cB_findCoin 16 = .ok (.iload_n 1, 1) := by decide +kernel
theorem dB_findCoin_17 : decode cB_findCoin 17 = .ok (.aaload, 1) := by decide +kernel
theorem dB_findCoin_18 : decode cB_findCoin 18 = .ok (.getfield 108, 3) := by decide +kernel
theorem dB_findCoin_21 : decode cB_findCoin 21 = .ok (.if_icmp .lt 5, 3) := by decide +kernel
theorem dB_findCoin_24 : decode cB_findCoin 24 = .ok (.aconst_null, 1) := by decide +kernel
theorem dB_findCoin_25 : decode cB_findCoin 25 = .ok (.areturn, 1) := by decide +kernel
theorem dB_findCoin_26 : decode cB_findCoin 26 = .ok (.aload_n 0, 1) := by decide +kernel
theorem dB_findCoin_27 : decode cB_findCoin 27 = .ok (.getfield 11, 3) := by decide +kernel
theorem dB_findCoin_30 : decode cB_findCoin 30 = .ok (.iload_n 1, 1) := by decide +kernel
theorem dB_findCoin_31 : decode cB_findCoin 31 = .ok (.aaload, 1) := by decide +kernel
theorem dB_findCoin_32 : decode cB_findCoin 32 = .ok (.getfield 180, 3) := by decide +kernel
theorem dB_findCoin_35 : decode cB_findCoin 35 = .ok (.iload_n 2, 1) := by decide +kernel
theorem dB_findCoin_36 : decode cB_findCoin 36 = .ok (.aaload, 1) := by decide +kernel
theorem dB_findCoin_37 : decode cB_findCoin 37 = .ok (.areturn, 1) := by decide +kernel
abbrev yB_tamper : MethodName := { cls := "BlindMint", name := "tamper", desc := "(IIJ)J" }
abbrev cB_tamper : ByteArray := prog_1_method_5_code
theorem dB_tamper_0 : decode cB_tamper 0 = .ok (.aload_n 0, 1) := by decide +kernel
theorem dB_tamper_1 : decode cB_tamper 1 = .ok (.iload_n 1, 1) := by decide +kernel
theorem dB_tamper_2 : decode cB_tamper 2 = .ok (.invokevirtual 131, 3) := by decide +kernel
theorem dB_tamper_5 : decode cB_tamper 5 = .ok (.astore 5, 2) := by decide +kernel
theorem dB_tamper_7 : decode cB_tamper 7 = .ok (.aload 5, 2) := by decide +kernel
theorem dB_tamper_9 : decode cB_tamper 9 = .ok (.ifnull 10, 3) := by decide +kernel
theorem dB_tamper_12 : decode cB_tamper 12 = .ok (.iload_n 2, 1) := by decide +kernel
theorem dB_tamper_13 : decode cB_tamper 13 = .ok (.invokestatic 135, 3) := by decide +kernel
theorem dB_tamper_16 : decode cB_tamper 16 = .ok (.ifCond .ne 11, 3) := by decide +kernel
theorem dB_tamper_19 : decode cB_tamper 19 = .ok (.new 70, 3) := by decide +kernel
theorem dB_tamper_22 : decode cB_tamper 22 = .ok (.dup, 1) := by decide +kernel
theorem dB_tamper_23 : decode cB_tamper 23 = .ok (.invokespecial 72, 3) := by decide +kernel
theorem dB_tamper_26 : decode cB_tamper 26 = .ok (.athrow, 1) := by decide +kernel
theorem dB_tamper_27 : decode cB_tamper 27 = .ok (.aload 5, 2) := by decide +kernel
theorem dB_tamper_29 : decode cB_tamper 29 = .ok (.getfield 138, 3) := by decide +kernel
theorem dB_tamper_32 : decode cB_tamper 32 = .ok (.iload_n 2, 1) := by decide +kernel
theorem dB_tamper_33 : decode cB_tamper 33 = .ok (.dup2, 1) := by decide +kernel
theorem dB_tamper_34 : decode cB_tamper 34 = .ok (.laload, 1) := by decide +kernel
theorem dB_tamper_35 : decode cB_tamper 35 = .ok (.lload_n 3, 1) := by decide +kernel
theorem dB_tamper_36 : decode cB_tamper 36 = .ok (.lxor, 1) := by decide +kernel
theorem dB_tamper_37 : decode cB_tamper 37 = .ok (.lastore, 1) := by decide +kernel
theorem dB_tamper_38 : decode cB_tamper 38 = .ok (.aload 5, 2) := by decide +kernel
theorem dB_tamper_40 : decode cB_tamper 40 = .ok (.getfield 138, 3) := by decide +kernel
theorem dB_tamper_43 : decode cB_tamper 43 = .ok (.iload_n 2, 1) := by decide +kernel
theorem dB_tamper_44 : decode cB_tamper 44 = .ok (.laload, 1) := by decide +kernel
theorem dB_tamper_45 : decode cB_tamper 45 = .ok (.lreturn, 1) := by decide +kernel
abbrev yB_number : MethodName := { cls := "BlindMint", name := "number", desc := "(II)J" }
abbrev cB_number : ByteArray := prog_1_method_6_code
theorem dB_number_0 : decode cB_number 0 = .ok (.aload_n 0, 1) := by decide +kernel
theorem dB_number_1 : decode cB_number 1 = .ok (.iload_n 1, 1) := by decide +kernel
theorem dB_number_2 : decode cB_number 2 = .ok (.invokevirtual 131, 3) := by decide +kernel
theorem dB_number_5 : decode cB_number 5 = .ok (.astore_n 3, 1) := by decide +kernel
theorem dB_number_6 : decode cB_number 6 = .ok (.aload_n 3, 1) := by decide +kernel
theorem dB_number_7 : decode cB_number 7 = .ok (.ifnull 10, 3) := by decide +kernel
theorem dB_number_10 : decode cB_number 10 = .ok (.iload_n 2, 1) := by decide +kernel
theorem dB_number_11 : decode cB_number 11 = .ok (.invokestatic 135, 3) := by decide +kernel
theorem dB_number_14 : decode cB_number 14 = .ok (.ifCond .ne 11, 3) := by decide +kernel
theorem dB_number_17 : decode cB_number 17 = .ok (.new 115, 3) := by decide +kernel
theorem dB_number_20 : decode cB_number 20 = .ok (.dup, 1) := by decide +kernel
theorem dB_number_21 : decode cB_number 21 = .ok (.invokespecial 117, 3) := by decide +kernel
theorem dB_number_24 : decode cB_number 24 = .ok (.athrow, 1) := by decide +kernel
theorem dB_number_25 : decode cB_number 25 = .ok (.aload_n 3, 1) := by decide +kernel
theorem dB_number_26 : decode cB_number 26 = .ok (.getfield 138, 3) := by decide +kernel
theorem dB_number_29 : decode cB_number 29 = .ok (.iload_n 2, 1) := by decide +kernel
theorem dB_number_30 : decode cB_number 30 = .ok (.laload, 1) := by decide +kernel
theorem dB_number_31 : decode cB_number 31 = .ok (.lreturn, 1) := by decide +kernel
abbrev yB_deposit : MethodName := { cls := "BlindMint", name := "deposit", desc := "(II)I" }
abbrev cB_deposit : ByteArray := prog_1_method_8_code
theorem dB_deposit_0 : decode cB_deposit 0 = .ok (.aload_n 0, 1) := by decide +kernel
theorem dB_deposit_1 : decode cB_deposit 1 = .ok (.iload_n 1, 1) := by decide +kernel
theorem dB_deposit_2 : decode cB_deposit 2 = .ok (.invokevirtual 131, 3) := by decide +kernel
theorem dB_deposit_5 : decode cB_deposit 5 = .ok (.astore_n 3, 1) := by decide +kernel
theorem dB_deposit_6 : decode cB_deposit 6 = .ok (.iload_n 2, 1) := by decide +kernel
theorem dB_deposit_7 : decode cB_deposit 7 = .ok (.invokestatic 62, 3) := by decide +kernel
theorem dB_deposit_10 : decode cB_deposit 10 = .ok (.ifCond .eq 15, 3) := by decide +kernel
theorem dB_deposit_13 : decode cB_deposit 13 = .ok (.aload_n 3, 1) := by decide +kernel
theorem dB_deposit_14 : decode cB_deposit 14 = .ok (.ifnull 11, 3) := by decide +kernel
theorem dB_deposit_17 : decode cB_deposit 17 = .ok (.aload_n 0, 1) := by decide +kernel
theorem dB_deposit_18 : decode cB_deposit 18 = .ok (.aload_n 3, 1) := by decide +kernel
theorem dB_deposit_19 : decode cB_deposit 19 = .ok (.invokevirtual 141, 3) := by decide +kernel
theorem dB_deposit_22 : decode cB_deposit 22 = .ok (.ifCond .ne 11, 3) := by decide +kernel
theorem dB_deposit_25 : decode cB_deposit 25 = .ok (.new 70, 3) := by decide +kernel
theorem dB_deposit_28 : decode cB_deposit 28 = .ok (.dup, 1) := by decide +kernel
theorem dB_deposit_29 : decode cB_deposit 29 = .ok (.invokespecial 72, 3) := by decide +kernel
theorem dB_deposit_32 : decode cB_deposit 32 = .ok (.athrow, 1) := by decide +kernel
theorem dB_deposit_33 : decode cB_deposit 33 = .ok (.aload_n 0, 1) := by decide +kernel
theorem dB_deposit_34 : decode cB_deposit 34 = .ok (.aload_n 3, 1) := by decide +kernel
theorem dB_deposit_35 : decode cB_deposit 35 = .ok (.invokevirtual 145, 3) := by decide +kernel
theorem dB_deposit_38 : decode cB_deposit 38 = .ok (.invokevirtual 149, 3) := by decide +kernel
theorem dB_deposit_41 : decode cB_deposit 41 = .ok (.astore 4, 2) := by decide +kernel
theorem dB_deposit_43 : decode cB_deposit 43 = .ok (.aload 4, 2) := by decide +kernel
theorem dB_deposit_45 : decode cB_deposit 45 = .ok (.ifnull 34, 3) := by decide +kernel
theorem dB_deposit_48 : decode cB_deposit 48 = .ok (.aload_n 0, 1) := by decide +kernel
theorem dB_deposit_49 : decode cB_deposit 49 = .ok (.dup, 1) := by decide +kernel
theorem dB_deposit_50 : decode cB_deposit 50 = .ok (.getfield 58, 3) := by decide +kernel
theorem dB_deposit_53 : decode cB_deposit 53 = .ok (.iconst 1, 1) := by decide +kernel
theorem dB_deposit_54 : decode cB_deposit 54 = .ok (.iadd, 1) := by decide +kernel
theorem dB_deposit_55 : decode cB_deposit 55 = .ok (.putfield 58, 3) := by decide +kernel
theorem dB_deposit_58 : decode cB_deposit 58 = .ok (.aload_n 0, 1) := by decide +kernel
theorem dB_deposit_59 : decode cB_deposit 59 = .ok (.aload 4, 2) := by decide +kernel
theorem dB_deposit_61 : decode cB_deposit 61 = .ok (.aload_n 3, 1) := by decide +kernel
theorem dB_deposit_62 : decode cB_deposit 62 = .ok (.invokevirtual 153, 3) := by decide +kernel
theorem dB_deposit_65 : decode cB_deposit 65 = .ok (.invokestatic 159, 3) := by decide +kernel
theorem dB_deposit_68 : decode cB_deposit 68 = .ok (.putfield 40, 3) := by decide +kernel
theorem dB_deposit_71 : decode cB_deposit 71 = .ok (.new 89, 3) := by decide +kernel
theorem dB_deposit_74 : decode cB_deposit 74 = .ok (.dup, 1) := by decide +kernel
theorem dB_deposit_75 : decode cB_deposit 75 = .ok (.invokespecial 91, 3) := by decide +kernel
theorem dB_deposit_78 : decode cB_deposit 78 = .ok (.athrow, 1) := by decide +kernel
theorem dB_deposit_79 : decode cB_deposit 79 = .ok (.aload_n 0, 1) := by decide +kernel
theorem dB_deposit_80 : decode cB_deposit 80 = .ok (.getfield 52, 3) := by decide +kernel
theorem dB_deposit_83 : decode cB_deposit 83 = .ok (.sipush 512, 3) := by decide +kernel
theorem dB_deposit_86 : decode cB_deposit 86 = .ok (.if_icmp .lt 11, 3) := by decide +kernel
theorem dB_deposit_89 : decode cB_deposit 89 = .ok (.new 89, 3) := by decide +kernel
theorem dB_deposit_92 : decode cB_deposit 92 = .ok (.dup, 1) := by decide +kernel
theorem dB_deposit_93 : decode cB_deposit 93 = .ok (.invokespecial 91, 3) := by decide +kernel
theorem dB_deposit_96 : decode cB_deposit 96 = .ok (.athrow, 1) := by decide +kernel
theorem dB_deposit_97 : decode cB_deposit 97 = .ok (.aload_n 0, 1) := by decide +kernel
theorem dB_deposit_98 : decode cB_deposit 98 = .ok (.new 154, 3) := by decide +kernel
theorem dB_deposit_101 : decode cB_deposit 101 = .ok (.dup, 1) := by decide +kernel
theorem dB_deposit_102 : decode cB_deposit 102 = .ok (.aload_n 3, 1) := by decide +kernel
theorem dB_deposit_103 : decode cB_deposit 103 = .ok (.aload_n 0, 1) := by decide +kernel
theorem dB_deposit_104 : decode cB_deposit 104 = .ok (.getfield 32, 3) := by decide +kernel
theorem dB_deposit_107 : decode cB_deposit 107 = .ok (.invokevirtual 162, 3) := by decide +kernel
theorem dB_deposit_110 : decode cB_deposit 110 = .ok (.checkcast 163, 3) := by decide +kernel
theorem dB_deposit_113 : decode cB_deposit 113 = .ok (.aload_n 0, 1) := by decide +kernel
theorem dB_deposit_114 : decode cB_deposit 114 = .ok (.getfield 36, 3) := by decide +kernel
theorem dB_deposit_117 : decode cB_deposit 117 = .ok (.invokespecial 167, 3) := by decide +kernel
theorem dB_deposit_120 : decode cB_deposit 120 = .ok (.putfield 36, 3) := by decide +kernel
theorem dB_deposit_123 : decode cB_deposit 123 = .ok (.aload_n 0, 1) := by decide +kernel
theorem dB_deposit_124 : decode cB_deposit 124 = .ok (.dup, 1) := by decide +kernel
theorem dB_deposit_125 : decode cB_deposit 125 = .ok (.getfield 52, 3) := by decide +kernel
theorem dB_deposit_128 : decode cB_deposit 128 = .ok (.iconst 1, 1) := by decide +kernel
theorem dB_deposit_129 : decode cB_deposit 129 = .ok (.iadd, 1) := by decide +kernel
theorem dB_deposit_130 : decode cB_deposit 130 = .ok (.putfield 52, 3) := by decide +kernel
theorem dB_deposit_133 : decode cB_deposit 133 = .ok (.getstatic 73, 3) := by decide +kernel
theorem dB_deposit_136 : decode cB_deposit 136 = .ok (.aload_n 3, 1) := by decide +kernel
theorem dB_deposit_137 : decode cB_deposit 137 = .ok (.invokevirtual 145, 3) := by decide +kernel
theorem dB_deposit_140 : decode cB_deposit 140 = .ok (.l2i, 1) := by decide +kernel
theorem dB_deposit_141 : decode cB_deposit 141 = .ok (.aaload, 1) := by decide +kernel
theorem dB_deposit_142 : decode cB_deposit 142 = .ok (.getfield 77, 3) := by decide +kernel
theorem dB_deposit_145 : decode cB_deposit 145 = .ok (.istore 5, 2) := by decide +kernel
theorem dB_deposit_147 : decode cB_deposit 147 = .ok (.aload_n 0, 1) := by decide +kernel
theorem dB_deposit_148 : decode cB_deposit 148 = .ok (.getfield 11, 3) := by decide +kernel
theorem dB_deposit_151 : decode cB_deposit 151 = .ok (.iload_n 2, 1) := by decide +kernel
theorem dB_deposit_152 : decode cB_deposit 152 = .ok (.aaload, 1) := by decide +kernel
theorem dB_deposit_153 : decode cB_deposit 153 = .ok (.dup, 1) := by decide +kernel
theorem dB_deposit_154 : decode cB_deposit 154 = .ok (.getfield 82, 3) := by decide +kernel
theorem dB_deposit_157 : decode cB_deposit 157 = .ok (.iload 5, 2) := by decide +kernel
theorem dB_deposit_159 : decode cB_deposit 159 = .ok (.iadd, 1) := by decide +kernel
theorem dB_deposit_160 : decode cB_deposit 160 = .ok (.putfield 82, 3) := by decide +kernel
theorem dB_deposit_163 : decode cB_deposit 163 = .ok (.iload 5, 2) := by decide +kernel
theorem dB_deposit_165 : decode cB_deposit 165 = .ok (.ireturn, 1) := by decide +kernel
abbrev yB_findCredit : MethodName := { cls := "BlindMint", name := "findCredit", desc := "(J)LBlindMint$Credit;" }
abbrev cB_findCredit : ByteArray := prog_1_method_24_code
theorem dB_findCredit_0 : decode cB_findCredit 0 = .ok (.aload_n 0, 1) := by decide +kernel
theorem dB_findCredit_1 : decode cB_findCredit 1 = .ok (.getfield 36, 3) := by decide +kernel
theorem dB_findCredit_4 : decode cB_findCredit 4 = .ok (.astore_n 3, 1) := by decide +kernel
theorem dB_findCredit_5 : decode cB_findCredit 5 = .ok (.aload_n 3, 1) := by decide +kernel
theorem dB_findCredit_6 : decode cB_findCredit 6 = .ok (.ifnull 25, 3) := by decide +kernel
theorem dB_findCredit_9 : decode cB_findCredit 9 = .ok (.aload_n 3, 1) := by decide +kernel
theorem dB_findCredit_10 : decode cB_findCredit 10 = .ok (.lload_n 1, 1) := by decide +kernel
theorem dB_findCredit_11 : decode cB_findCredit 11 = .ok (.aload_n 0, 1) := by decide +kernel
theorem dB_findCredit_12 : decode cB_findCredit 12 = .ok (.getfield 32, 3) := by decide +kernel
theorem dB_findCredit_15 : decode cB_findCredit 15 = .ok (.invokevirtual 228, 3) := by decide +kernel
theorem dB_findCredit_18 : decode cB_findCredit 18 = .ok (.ifCond .eq 5, 3) := by decide +kernel
theorem dB_findCredit_21 : decode cB_findCredit 21 = .ok (.aload_n 3, 1) := by decide +kernel
theorem dB_findCredit_22 : decode cB_findCredit 22 = .ok (.areturn, 1) := by decide +kernel
theorem dB_findCredit_23 : decode cB_findCredit 23 = .ok (.aload_n 3, 1) := by decide +kernel
theorem dB_findCredit_24 : decode cB_findCredit 24 = .ok (.getfield 232, 3) := by decide +kernel
theorem dB_findCredit_27 : decode cB_findCredit 27 = .ok (.astore_n 3, 1) := by decide +kernel
theorem dB_findCredit_28 : decode cB_findCredit 28 = .ok (.goto (-23), 3) := by decide +kernel
theorem dB_findCredit_31 : decode cB_findCredit 31 = .ok (.aconst_null, 1) := by decide +kernel
theorem dB_findCredit_32 : decode cB_findCredit 32 = .ok (.areturn, 1) := by decide +kernel
abbrev yB_accountOf : MethodName := { cls := "BlindMint", name := "accountOf", desc := "(J)I" }
abbrev cB_accountOf : ByteArray := prog_1_method_19_code
theorem dB_accountOf_0 : decode cB_accountOf 0 = .ok (.lload_n 0, 1) := by decide +kernel
theorem dB_accountOf_1 : decode cB_accountOf 1 = .ok (.ldc2_w 176, 3) := by decide +kernel
theorem dB_accountOf_4 : decode cB_accountOf 4 = .ok (.lcmp, 1) := by decide +kernel
theorem dB_accountOf_5 : decode cB_accountOf 5 = .ok (.ifCond .lt 15, 3) := by decide +kernel
theorem dB_accountOf_8 : decode cB_accountOf 8 = .ok (.lload_n 0, 1) := by decide +kernel
theorem dB_accountOf_9 : decode cB_accountOf 9 = .ok (.ldc2_w 178, 3) := by decide +kernel
theorem dB_accountOf_12 : decode cB_accountOf 12 = .ok (.lcmp, 1) := by decide +kernel
theorem dB_accountOf_13 : decode cB_accountOf 13 = .ok (.ifCond .ge 7, 3) := by decide +kernel
theorem dB_accountOf_16 : decode cB_accountOf 16 = .ok (.iconst 1, 1) := by decide +kernel
theorem dB_accountOf_17 : decode cB_accountOf 17 = .ok (.goto 4, 3) := by decide +kernel
theorem dB_accountOf_20 : decode cB_accountOf 20 = .ok (.iconst 0, 1) := by decide +kernel
theorem dB_accountOf_21 : decode cB_accountOf 21 = .ok (.istore_n 2, 1) := by decide +kernel
theorem dB_accountOf_22 : decode cB_accountOf 22 = .ok (.iload_n 2, 1) := by decide +kernel
theorem dB_accountOf_23 : decode cB_accountOf 23 = .ok (.ifCond .eq 12, 3) := by decide +kernel
theorem dB_accountOf_26 : decode cB_accountOf 26 = .ok (.lload_n 0, 1) := by decide +kernel
theorem dB_accountOf_27 : decode cB_accountOf 27 = .ok (.l2i, 1) := by decide +kernel
theorem dB_accountOf_28 : decode cB_accountOf 28 = .ok (.sipush 1000, 3) := by decide +kernel
theorem dB_accountOf_31 : decode cB_accountOf 31 = .ok (.isub, 1) := by decide +kernel
theorem dB_accountOf_32 : decode cB_accountOf 32 = .ok (.goto 4, 3) := by decide +kernel
theorem dB_accountOf_35 : decode cB_accountOf 35 = .ok (.iconst (-1), 1) := by decide +kernel
theorem dB_accountOf_36 : decode cB_accountOf 36 = .ok (.ireturn, 1) := by decide +kernel
abbrev yB_balance : MethodName := { cls := "BlindMint", name := "balance", desc := "(I)I" }
abbrev cB_balance : ByteArray := prog_1_method_10_code
theorem dB_balance_0 : decode cB_balance 0 = .ok (.iload_n 1, 1) := by decide +kernel
theorem dB_balance_1 : decode cB_balance 1 = .ok (.invokestatic 62, 3) := by decide +kernel
theorem dB_balance_4 : decode cB_balance 4 = .ok (.ifCond .ne 11, 3) := by decide +kernel
theorem dB_balance_7 : decode cB_balance 7 = .ok (.new 70, 3) := by decide +kernel
theorem dB_balance_10 : decode cB_balance 10 = .ok (.dup, 1) := by decide +kernel
theorem dB_balance_11 : decode cB_balance 11 = .ok (.invokespecial 72, 3) := by decide +kernel
theorem dB_balance_14 : decode cB_balance 14 = .ok (.athrow, 1) := by decide +kernel
theorem dB_balance_15 : decode cB_balance 15 = .ok (.aload_n 0, 1) := by decide +kernel
theorem dB_balance_16 : decode cB_balance 16 = .ok (.getfield 11, 3) := by decide +kernel
theorem dB_balance_19 : decode cB_balance 19 = .ok (.iload_n 1, 1) := by decide +kernel
theorem dB_balance_20 : decode cB_balance 20 = .ok (.aaload, 1) := by decide +kernel
theorem dB_balance_21 : decode cB_balance 21 = .ok (.getfield 82, 3) := by decide +kernel
theorem dB_balance_24 : decode cB_balance 24 = .ok (.ireturn, 1) := by decide +kernel
abbrev yB_coin : MethodName := { cls := "BlindMint", name := "coin", desc := "(II)J" }
abbrev cB_coin : ByteArray := prog_1_method_12_code
theorem dB_coin_0 : decode cB_coin 0 = .ok (.aload_n 0, 1) := by decide +kernel
theorem dB_coin_1 : decode cB_coin 1 = .ok (.iload_n 1, 1) := by decide +kernel
theorem dB_coin_2 : decode cB_coin 2 = .ok (.iload_n 2, 1) := by decide +kernel
theorem dB_coin_3 : decode cB_coin 3 = .ok (.invokevirtual 118, 3) := by decide +kernel
theorem dB_coin_6 : decode cB_coin 6 = .ok (.astore_n 3, 1) := by decide +kernel
theorem dB_coin_7 : decode cB_coin 7 = .ok (.aload_n 3, 1) := by decide +kernel
theorem dB_coin_8 : decode cB_coin 8 = .ok (.ifnonnull 11, 3) := by decide +kernel
theorem dB_coin_11 : decode cB_coin 11 = .ok (.new 115, 3) := by decide +kernel
theorem dB_coin_14 : decode cB_coin 14 = .ok (.dup, 1) := by decide +kernel
theorem dB_coin_15 : decode cB_coin 15 = .ok (.invokespecial 117, 3) := by decide +kernel
theorem dB_coin_18 : decode cB_coin 18 = .ok (.athrow, 1) := by decide +kernel
theorem dB_coin_19 : decode cB_coin 19 = .ok (.aload_n 3, 1) := by decide +kernel
theorem dB_coin_20 : decode cB_coin 20 = .ok (.getfield 170, 3) := by decide +kernel
theorem dB_coin_23 : decode cB_coin 23 = .ok (.lreturn, 1) := by decide +kernel
abbrev yB_signature : MethodName := { cls := "BlindMint", name := "signature", desc := "(II)J" }
abbrev cB_signature : ByteArray := prog_1_method_13_code
theorem dB_signature_0 : decode cB_signature 0 = .ok (.aload_n 0, 1) := by decide +kernel
theorem dB_signature_1 : decode cB_signature 1 = .ok (.iload_n 1, 1) := by decide +kernel
theorem dB_signature_2 : decode cB_signature 2 = .ok (.iload_n 2, 1) := by decide +kernel
theorem dB_signature_3 : decode cB_signature 3 = .ok (.invokevirtual 118, 3) := by decide +kernel
theorem dB_signature_6 : decode cB_signature 6 = .ok (.astore_n 3, 1) := by decide +kernel
theorem dB_signature_7 : decode cB_signature 7 = .ok (.aload_n 3, 1) := by decide +kernel
theorem dB_signature_8 : decode cB_signature 8 = .ok (.ifnonnull 11, 3) := by decide +kernel
theorem dB_signature_11 : decode cB_signature 11 = .ok (.new 115, 3) := by decide +kernel
theorem dB_signature_14 : decode cB_signature 14 = .ok (.dup, 1) := by decide +kernel
theorem dB_signature_15 : decode cB_signature 15 = .ok (.invokespecial 117, 3) := by decide +kernel
theorem dB_signature_18 : decode cB_signature 18 = .ok (.athrow, 1) := by decide +kernel
theorem dB_signature_19 : decode cB_signature 19 = .ok (.aload_n 3, 1) := by decide +kernel
theorem dB_signature_20 : decode cB_signature 20 = .ok (.getfield 173, 3) := by decide +kernel
theorem dB_signature_23 : decode cB_signature 23 = .ok (.lreturn, 1) := by decide +kernel
