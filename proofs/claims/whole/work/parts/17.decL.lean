abbrev yL_withdraw : MethodName := { cls := "BlindMintLaw", name := "withdraw", desc := "(LBlindMint;IIJI[J)I" }
abbrev cL_withdraw : ByteArray := method_3_code
theorem dL_withdraw_0 : decode cL_withdraw 0 = .ok (.aload 6, 2) := by decide +kernel
theorem dL_withdraw_2 : decode cL_withdraw 2 = .ok (.iconst 0, 1) := by decide +kernel
theorem dL_withdraw_3 : decode cL_withdraw 3 = .ok (.aload_n 0, 1) := by decide +kernel
theorem dL_withdraw_4 : decode cL_withdraw 4 = .ok (.iload_n 1, 1) := by decide +kernel
theorem dL_withdraw_5 : decode cL_withdraw 5 = .ok (.iload_n 2, 1) := by decide +kernel
theorem dL_withdraw_6 : decode cL_withdraw 6 = .ok (.lload_n 3, 1) := by decide +kernel
theorem dL_withdraw_7 : decode cL_withdraw 7 = .ok (.iload 5, 2) := by decide +kernel
theorem dL_withdraw_9 : decode cL_withdraw 9 = .ok (.invokevirtual 7, 3) := by decide +kernel
theorem dL_withdraw_12 : decode cL_withdraw 12 = .ok (.i2l, 1) := by decide +kernel
theorem dL_withdraw_13 : decode cL_withdraw 13 = .ok (.lastore, 1) := by decide +kernel
theorem dL_withdraw_14 : decode cL_withdraw 14 = .ok (.goto 11, 3) := by decide +kernel
theorem dL_withdraw_17 : decode cL_withdraw 17 = .ok (.astore 7, 2) := by decide +kernel
theorem dL_withdraw_19 : decode cL_withdraw 19 = .ok (.iconst 1, 1) := by decide +kernel
theorem dL_withdraw_20 : decode cL_withdraw 20 = .ok (.ireturn, 1) := by decide +kernel
theorem dL_withdraw_21 : decode cL_withdraw 21 = .ok (.astore 7, 2) := by decide +kernel
theorem dL_withdraw_23 : decode cL_withdraw 23 = .ok (.iconst 2, 1) := by decide +kernel
theorem dL_withdraw_24 : decode cL_withdraw 24 = .ok (.ireturn, 1) := by decide +kernel
theorem dL_withdraw_25 : decode cL_withdraw 25 = .ok (.iconst 0, 1) := by decide +kernel
theorem dL_withdraw_26 : decode cL_withdraw 26 = .ok (.ireturn, 1) := by decide +kernel
abbrev yL_choose : MethodName := { cls := "BlindMintLaw", name := "choose", desc := "(LBlindMint;II[J)I" }
abbrev cL_choose : ByteArray := method_4_code
theorem dL_choose_0 : decode cL_choose 0 = .ok (.aload_n 3, 1) := by decide +kernel
theorem dL_choose_1 : decode cL_choose 1 = .ok (.iconst 0, 1) := by decide +kernel
theorem dL_choose_2 : decode cL_choose 2 = .ok (.aload_n 0, 1) := by decide +kernel
theorem dL_choose_3 : decode cL_choose 3 = .ok (.iload_n 1, 1) := by decide +kernel
theorem dL_choose_4 : decode cL_choose 4 = .ok (.iload_n 2, 1) := by decide +kernel
theorem dL_choose_5 : decode cL_choose 5 = .ok (.invokevirtual 17, 3) := by decide +kernel
theorem dL_choose_8 : decode cL_choose 8 = .ok (.i2l, 1) := by decide +kernel
theorem dL_choose_9 : decode cL_choose 9 = .ok (.lastore, 1) := by decide +kernel
theorem dL_choose_10 : decode cL_choose 10 = .ok (.goto 11, 3) := by decide +kernel
theorem dL_choose_13 : decode cL_choose 13 = .ok (.astore 4, 2) := by decide +kernel
theorem dL_choose_15 : decode cL_choose 15 = .ok (.iconst 1, 1) := by decide +kernel
theorem dL_choose_16 : decode cL_choose 16 = .ok (.ireturn, 1) := by decide +kernel
theorem dL_choose_17 : decode cL_choose 17 = .ok (.astore 4, 2) := by decide +kernel
theorem dL_choose_19 : decode cL_choose 19 = .ok (.iconst 2, 1) := by decide +kernel
theorem dL_choose_20 : decode cL_choose 20 = .ok (.ireturn, 1) := by decide +kernel
theorem dL_choose_21 : decode cL_choose 21 = .ok (.iconst 0, 1) := by decide +kernel
theorem dL_choose_22 : decode cL_choose 22 = .ok (.ireturn, 1) := by decide +kernel
abbrev yL_spend : MethodName := { cls := "BlindMintLaw", name := "spend", desc := "(LBlindMint;IIII[J)I" }
abbrev cL_spend : ByteArray := method_5_code
theorem dL_spend_0 : decode cL_spend 0 = .ok (.aload 5, 2) := by decide +kernel
theorem dL_spend_2 : decode cL_spend 2 = .ok (.iconst 0, 1) := by decide +kernel
theorem dL_spend_3 : decode cL_spend 3 = .ok (.aload_n 0, 1) := by decide +kernel
theorem dL_spend_4 : decode cL_spend 4 = .ok (.iload_n 1, 1) := by decide +kernel
theorem dL_spend_5 : decode cL_spend 5 = .ok (.iload_n 2, 1) := by decide +kernel
theorem dL_spend_6 : decode cL_spend 6 = .ok (.iload_n 3, 1) := by decide +kernel
theorem dL_spend_7 : decode cL_spend 7 = .ok (.iload 4, 2) := by decide +kernel
theorem dL_spend_9 : decode cL_spend 9 = .ok (.invokevirtual 23, 3) := by decide +kernel
theorem dL_spend_12 : decode cL_spend 12 = .ok (.i2l, 1) := by decide +kernel
theorem dL_spend_13 : decode cL_spend 13 = .ok (.lastore, 1) := by decide +kernel
theorem dL_spend_14 : decode cL_spend 14 = .ok (.goto 11, 3) := by decide +kernel
theorem dL_spend_17 : decode cL_spend 17 = .ok (.astore 6, 2) := by decide +kernel
theorem dL_spend_19 : decode cL_spend 19 = .ok (.iconst 1, 1) := by decide +kernel
theorem dL_spend_20 : decode cL_spend 20 = .ok (.ireturn, 1) := by decide +kernel
theorem dL_spend_21 : decode cL_spend 21 = .ok (.astore 6, 2) := by decide +kernel
theorem dL_spend_23 : decode cL_spend 23 = .ok (.iconst 2, 1) := by decide +kernel
theorem dL_spend_24 : decode cL_spend 24 = .ok (.ireturn, 1) := by decide +kernel
theorem dL_spend_25 : decode cL_spend 25 = .ok (.iconst 0, 1) := by decide +kernel
theorem dL_spend_26 : decode cL_spend 26 = .ok (.ireturn, 1) := by decide +kernel
abbrev yL_tamper : MethodName := { cls := "BlindMintLaw", name := "tamper", desc := "(LBlindMint;IIJ[J)I" }
abbrev cL_tamper : ByteArray := method_6_code
theorem dL_tamper_0 : decode cL_tamper 0 = .ok (.aload 5, 2) := by decide +kernel
theorem dL_tamper_2 : decode cL_tamper 2 = .ok (.iconst 0, 1) := by decide +kernel
theorem dL_tamper_3 : decode cL_tamper 3 = .ok (.aload_n 0, 1) := by decide +kernel
theorem dL_tamper_4 : decode cL_tamper 4 = .ok (.iload_n 1, 1) := by decide +kernel
theorem dL_tamper_5 : decode cL_tamper 5 = .ok (.iload_n 2, 1) := by decide +kernel
theorem dL_tamper_6 : decode cL_tamper 6 = .ok (.lload_n 3, 1) := by decide +kernel
theorem dL_tamper_7 : decode cL_tamper 7 = .ok (.invokevirtual 27, 3) := by decide +kernel
theorem dL_tamper_10 : decode cL_tamper 10 = .ok (.lastore, 1) := by decide +kernel
theorem dL_tamper_11 : decode cL_tamper 11 = .ok (.goto 7, 3) := by decide +kernel
theorem dL_tamper_14 : decode cL_tamper 14 = .ok (.astore 6, 2) := by decide +kernel
theorem dL_tamper_16 : decode cL_tamper 16 = .ok (.iconst 1, 1) := by decide +kernel
theorem dL_tamper_17 : decode cL_tamper 17 = .ok (.ireturn, 1) := by decide +kernel
theorem dL_tamper_18 : decode cL_tamper 18 = .ok (.iconst 0, 1) := by decide +kernel
theorem dL_tamper_19 : decode cL_tamper 19 = .ok (.ireturn, 1) := by decide +kernel
abbrev yL_number : MethodName := { cls := "BlindMintLaw", name := "number", desc := "(LBlindMint;II[J)I" }
abbrev cL_number : ByteArray := method_7_code
theorem dL_number_0 : decode cL_number 0 = .ok (.aload_n 3, 1) := by decide +kernel
theorem dL_number_1 : decode cL_number 1 = .ok (.iconst 0, 1) := by decide +kernel
theorem dL_number_2 : decode cL_number 2 = .ok (.aload_n 0, 1) := by decide +kernel
theorem dL_number_3 : decode cL_number 3 = .ok (.iload_n 1, 1) := by decide +kernel
theorem dL_number_4 : decode cL_number 4 = .ok (.iload_n 2, 1) := by decide +kernel
theorem dL_number_5 : decode cL_number 5 = .ok (.invokevirtual 31, 3) := by decide +kernel
theorem dL_number_8 : decode cL_number 8 = .ok (.lastore, 1) := by decide +kernel
theorem dL_number_9 : decode cL_number 9 = .ok (.goto 7, 3) := by decide +kernel
theorem dL_number_12 : decode cL_number 12 = .ok (.astore 4, 2) := by decide +kernel
theorem dL_number_14 : decode cL_number 14 = .ok (.iconst 1, 1) := by decide +kernel
theorem dL_number_15 : decode cL_number 15 = .ok (.ireturn, 1) := by decide +kernel
theorem dL_number_16 : decode cL_number 16 = .ok (.iconst 0, 1) := by decide +kernel
theorem dL_number_17 : decode cL_number 17 = .ok (.ireturn, 1) := by decide +kernel
abbrev yL_deposit : MethodName := { cls := "BlindMintLaw", name := "deposit", desc := "(LBlindMint;II[J)I" }
abbrev cL_deposit : ByteArray := method_8_code
theorem dL_deposit_0 : decode cL_deposit 0 = .ok (.aload_n 3, 1) := by decide +kernel
theorem dL_deposit_1 : decode cL_deposit 1 = .ok (.iconst 0, 1) := by decide +kernel
theorem dL_deposit_2 : decode cL_deposit 2 = .ok (.aload_n 0, 1) := by decide +kernel
theorem dL_deposit_3 : decode cL_deposit 3 = .ok (.iload_n 1, 1) := by decide +kernel
theorem dL_deposit_4 : decode cL_deposit 4 = .ok (.iload_n 2, 1) := by decide +kernel
theorem dL_deposit_5 : decode cL_deposit 5 = .ok (.invokevirtual 35, 3) := by decide +kernel
theorem dL_deposit_8 : decode cL_deposit 8 = .ok (.i2l, 1) := by decide +kernel
theorem dL_deposit_9 : decode cL_deposit 9 = .ok (.lastore, 1) := by decide +kernel
theorem dL_deposit_10 : decode cL_deposit 10 = .ok (.goto 11, 3) := by decide +kernel
theorem dL_deposit_13 : decode cL_deposit 13 = .ok (.astore 4, 2) := by decide +kernel
theorem dL_deposit_15 : decode cL_deposit 15 = .ok (.iconst 1, 1) := by decide +kernel
theorem dL_deposit_16 : decode cL_deposit 16 = .ok (.ireturn, 1) := by decide +kernel
theorem dL_deposit_17 : decode cL_deposit 17 = .ok (.astore 4, 2) := by decide +kernel
theorem dL_deposit_19 : decode cL_deposit 19 = .ok (.iconst 2, 1) := by decide +kernel
theorem dL_deposit_20 : decode cL_deposit 20 = .ok (.ireturn, 1) := by decide +kernel
theorem dL_deposit_21 : decode cL_deposit 21 = .ok (.iconst 0, 1) := by decide +kernel
theorem dL_deposit_22 : decode cL_deposit 22 = .ok (.ireturn, 1) := by decide +kernel
abbrev yL_balance : MethodName := { cls := "BlindMintLaw", name := "balance", desc := "(LBlindMint;I[J)I" }
abbrev cL_balance : ByteArray := method_9_code
theorem dL_balance_0 : decode cL_balance 0 = .ok (.aload_n 2, 1) := by decide +kernel
theorem dL_balance_1 : decode cL_balance 1 = .ok (.iconst 0, 1) := by decide +kernel
theorem dL_balance_2 : decode cL_balance 2 = .ok (.aload_n 0, 1) := by decide +kernel
theorem dL_balance_3 : decode cL_balance 3 = .ok (.iload_n 1, 1) := by decide +kernel
theorem dL_balance_4 : decode cL_balance 4 = .ok (.invokevirtual 38, 3) := by decide +kernel
theorem dL_balance_7 : decode cL_balance 7 = .ok (.i2l, 1) := by decide +kernel
theorem dL_balance_8 : decode cL_balance 8 = .ok (.lastore, 1) := by decide +kernel
theorem dL_balance_9 : decode cL_balance 9 = .ok (.goto 6, 3) := by decide +kernel
theorem dL_balance_12 : decode cL_balance 12 = .ok (.astore_n 3, 1) := by decide +kernel
theorem dL_balance_13 : decode cL_balance 13 = .ok (.iconst 1, 1) := by decide +kernel
theorem dL_balance_14 : decode cL_balance 14 = .ok (.ireturn, 1) := by decide +kernel
theorem dL_balance_15 : decode cL_balance 15 = .ok (.iconst 0, 1) := by decide +kernel
theorem dL_balance_16 : decode cL_balance 16 = .ok (.ireturn, 1) := by decide +kernel
abbrev yL_coin : MethodName := { cls := "BlindMintLaw", name := "coin", desc := "(LBlindMint;II[J)I" }
abbrev cL_coin : ByteArray := method_10_code
theorem dL_coin_0 : decode cL_coin 0 = .ok (.aload_n 3, 1) := by decide +kernel
theorem dL_coin_1 : decode cL_coin 1 = .ok (.iconst 0, 1) := by decide +kernel
theorem dL_coin_2 : decode cL_coin 2 = .ok (.aload_n 0, 1) := by decide +kernel
theorem dL_coin_3 : decode cL_coin 3 = .ok (.iload_n 1, 1) := by decide +kernel
theorem dL_coin_4 : decode cL_coin 4 = .ok (.iload_n 2, 1) := by decide +kernel
theorem dL_coin_5 : decode cL_coin 5 = .ok (.invokevirtual 42, 3) := by decide +kernel
theorem dL_coin_8 : decode cL_coin 8 = .ok (.lastore, 1) := by decide +kernel
theorem dL_coin_9 : decode cL_coin 9 = .ok (.goto 7, 3) := by decide +kernel
theorem dL_coin_12 : decode cL_coin 12 = .ok (.astore 4, 2) := by decide +kernel
theorem dL_coin_14 : decode cL_coin 14 = .ok (.iconst 1, 1) := by decide +kernel
theorem dL_coin_15 : decode cL_coin 15 = .ok (.ireturn, 1) := by decide +kernel
theorem dL_coin_16 : decode cL_coin 16 = .ok (.iconst 0, 1) := by decide +kernel
theorem dL_coin_17 : decode cL_coin 17 = .ok (.ireturn, 1) := by decide +kernel
abbrev yL_signature : MethodName := { cls := "BlindMintLaw", name := "signature", desc := "(LBlindMint;II[J)I" }
abbrev cL_signature : ByteArray := method_11_code
theorem dL_signature_0 : decode cL_signature 0 = .ok (.aload_n 3, 1) := by decide +kernel
theorem dL_signature_1 : decode cL_signature 1 = .ok (.iconst 0, 1) := by decide +kernel
theorem dL_signature_2 : decode cL_signature 2 = .ok (.aload_n 0, 1) := by decide +kernel
theorem dL_signature_3 : decode cL_signature 3 = .ok (.iload_n 1, 1) := by decide +kernel
theorem dL_signature_4 : decode cL_signature 4 = .ok (.iload_n 2, 1) := by decide +kernel
theorem dL_signature_5 : decode cL_signature 5 = .ok (.invokevirtual 45, 3) := by decide +kernel
theorem dL_signature_8 : decode cL_signature 8 = .ok (.lastore, 1) := by decide +kernel
theorem dL_signature_9 : decode cL_signature 9 = .ok (.goto 7, 3) := by decide +kernel
theorem dL_signature_12 : decode cL_signature 12 = .ok (.astore 4, 2) := by decide +kernel
theorem dL_signature_14 : decode cL_signature 14 = .ok (.iconst 1, 1) := by decide +kernel
theorem dL_signature_15 : decode cL_signature 15 = .ok (.ireturn, 1) := by decide +kernel
theorem dL_signature_16 : decode cL_signature 16 = .ok (.iconst 0, 1) := by decide +kernel
theorem dL_signature_17 : decode cL_signature 17 = .ok (.ireturn, 1) := by decide +kernel
