-- decode rows of the law
theorem d_L_declare_0 : decode b_L_declare 0 = .ok (.aload_n 0, 1) := by decide +kernel
theorem d_L_declare_1 : decode b_L_declare 1 = .ok (.iload_n 1, 1) := by decide +kernel
theorem d_L_declare_2 : decode b_L_declare 2 = .ok (.iload_n 2, 1) := by decide +kernel
theorem d_L_declare_3 : decode b_L_declare 3 = .ok (.iload_n 3, 1) := by decide +kernel
theorem d_L_declare_4 : decode b_L_declare 4 = .ok (.iload 4, 2) := by decide +kernel
theorem d_L_declare_6 : decode b_L_declare 6 = .ok (.invokevirtual 7, 3) := by decide +kernel
theorem d_L_declare_9 : decode b_L_declare 9 = .ok (.goto 11, 3) := by decide +kernel
theorem d_L_declare_12 : decode b_L_declare 12 = .ok (.astore 5, 2) := by decide +kernel
theorem d_L_declare_14 : decode b_L_declare 14 = .ok (.iconst 1, 1) := by decide +kernel
theorem d_L_declare_15 : decode b_L_declare 15 = .ok (.ireturn, 1) := by decide +kernel
theorem d_L_declare_16 : decode b_L_declare 16 = .ok (.astore 5, 2) := by decide +kernel
theorem d_L_declare_18 : decode b_L_declare 18 = .ok (.iconst 2, 1) := by decide +kernel
theorem d_L_declare_19 : decode b_L_declare 19 = .ok (.ireturn, 1) := by decide +kernel
theorem d_L_declare_20 : decode b_L_declare 20 = .ok (.iconst 0, 1) := by decide +kernel
theorem d_L_declare_21 : decode b_L_declare 21 = .ok (.ireturn, 1) := by decide +kernel
theorem d_L_mayUse_0 : decode b_L_mayUse 0 = .ok (.aload_n 0, 1) := by decide +kernel
theorem d_L_mayUse_1 : decode b_L_mayUse 1 = .ok (.iload_n 1, 1) := by decide +kernel
theorem d_L_mayUse_2 : decode b_L_mayUse 2 = .ok (.iload_n 2, 1) := by decide +kernel
theorem d_L_mayUse_3 : decode b_L_mayUse 3 = .ok (.iload_n 3, 1) := by decide +kernel
theorem d_L_mayUse_4 : decode b_L_mayUse 4 = .ok (.invokevirtual 17, 3) := by decide +kernel
theorem d_L_mayUse_7 : decode b_L_mayUse 7 = .ok (.goto 11, 3) := by decide +kernel
theorem d_L_mayUse_10 : decode b_L_mayUse 10 = .ok (.astore 4, 2) := by decide +kernel
theorem d_L_mayUse_12 : decode b_L_mayUse 12 = .ok (.iconst 1, 1) := by decide +kernel
theorem d_L_mayUse_13 : decode b_L_mayUse 13 = .ok (.ireturn, 1) := by decide +kernel
theorem d_L_mayUse_14 : decode b_L_mayUse 14 = .ok (.astore 4, 2) := by decide +kernel
theorem d_L_mayUse_16 : decode b_L_mayUse 16 = .ok (.iconst 2, 1) := by decide +kernel
theorem d_L_mayUse_17 : decode b_L_mayUse 17 = .ok (.ireturn, 1) := by decide +kernel
theorem d_L_mayUse_18 : decode b_L_mayUse 18 = .ok (.iconst 0, 1) := by decide +kernel
theorem d_L_mayUse_19 : decode b_L_mayUse 19 = .ok (.ireturn, 1) := by decide +kernel
theorem d_L_seal_0 : decode b_L_seal 0 = .ok (.aload_n 1, 1) := by decide +kernel
theorem d_L_seal_1 : decode b_L_seal 1 = .ok (.iconst 0, 1) := by decide +kernel
theorem d_L_seal_2 : decode b_L_seal 2 = .ok (.aload_n 0, 1) := by decide +kernel
theorem d_L_seal_3 : decode b_L_seal 3 = .ok (.invokevirtual 21, 3) := by decide +kernel
theorem d_L_seal_6 : decode b_L_seal 6 = .ok (.i2l, 1) := by decide +kernel
theorem d_L_seal_7 : decode b_L_seal 7 = .ok (.lastore, 1) := by decide +kernel
theorem d_L_seal_8 : decode b_L_seal 8 = .ok (.goto 6, 3) := by decide +kernel
theorem d_L_seal_11 : decode b_L_seal 11 = .ok (.astore_n 2, 1) := by decide +kernel
theorem d_L_seal_12 : decode b_L_seal 12 = .ok (.iconst 1, 1) := by decide +kernel
theorem d_L_seal_13 : decode b_L_seal 13 = .ok (.ireturn, 1) := by decide +kernel
theorem d_L_seal_14 : decode b_L_seal 14 = .ok (.iconst 0, 1) := by decide +kernel
theorem d_L_seal_15 : decode b_L_seal 15 = .ok (.ireturn, 1) := by decide +kernel
theorem d_L_release_0 : decode b_L_release 0 = .ok (.aload_n 2, 1) := by decide +kernel
theorem d_L_release_1 : decode b_L_release 1 = .ok (.iconst 0, 1) := by decide +kernel
theorem d_L_release_2 : decode b_L_release 2 = .ok (.aload_n 0, 1) := by decide +kernel
theorem d_L_release_3 : decode b_L_release 3 = .ok (.iload_n 1, 1) := by decide +kernel
theorem d_L_release_4 : decode b_L_release 4 = .ok (.invokevirtual 25, 3) := by decide +kernel
theorem d_L_release_7 : decode b_L_release 7 = .ok (.i2l, 1) := by decide +kernel
theorem d_L_release_8 : decode b_L_release 8 = .ok (.lastore, 1) := by decide +kernel
theorem d_L_release_9 : decode b_L_release 9 = .ok (.goto 9, 3) := by decide +kernel
theorem d_L_release_12 : decode b_L_release 12 = .ok (.astore_n 3, 1) := by decide +kernel
theorem d_L_release_13 : decode b_L_release 13 = .ok (.iconst 1, 1) := by decide +kernel
theorem d_L_release_14 : decode b_L_release 14 = .ok (.ireturn, 1) := by decide +kernel
theorem d_L_release_15 : decode b_L_release 15 = .ok (.astore_n 3, 1) := by decide +kernel
theorem d_L_release_16 : decode b_L_release 16 = .ok (.iconst 2, 1) := by decide +kernel
theorem d_L_release_17 : decode b_L_release 17 = .ok (.ireturn, 1) := by decide +kernel
theorem d_L_release_18 : decode b_L_release 18 = .ok (.iconst 0, 1) := by decide +kernel
theorem d_L_release_19 : decode b_L_release 19 = .ok (.ireturn, 1) := by decide +kernel
theorem d_L_take_0 : decode b_L_take 0 = .ok (.aload_n 2, 1) := by decide +kernel
theorem d_L_take_1 : decode b_L_take 1 = .ok (.iconst 0, 1) := by decide +kernel
theorem d_L_take_2 : decode b_L_take 2 = .ok (.aload_n 0, 1) := by decide +kernel
theorem d_L_take_3 : decode b_L_take 3 = .ok (.iload_n 1, 1) := by decide +kernel
theorem d_L_take_4 : decode b_L_take 4 = .ok (.invokevirtual 29, 3) := by decide +kernel
theorem d_L_take_7 : decode b_L_take 7 = .ok (.i2l, 1) := by decide +kernel
theorem d_L_take_8 : decode b_L_take 8 = .ok (.lastore, 1) := by decide +kernel
theorem d_L_take_9 : decode b_L_take 9 = .ok (.goto 9, 3) := by decide +kernel
theorem d_L_take_12 : decode b_L_take 12 = .ok (.astore_n 3, 1) := by decide +kernel
theorem d_L_take_13 : decode b_L_take 13 = .ok (.iconst 1, 1) := by decide +kernel
theorem d_L_take_14 : decode b_L_take 14 = .ok (.ireturn, 1) := by decide +kernel
theorem d_L_take_15 : decode b_L_take 15 = .ok (.astore_n 3, 1) := by decide +kernel
theorem d_L_take_16 : decode b_L_take 16 = .ok (.iconst 2, 1) := by decide +kernel
theorem d_L_take_17 : decode b_L_take 17 = .ok (.ireturn, 1) := by decide +kernel
theorem d_L_take_18 : decode b_L_take 18 = .ok (.iconst 0, 1) := by decide +kernel
theorem d_L_take_19 : decode b_L_take 19 = .ok (.ireturn, 1) := by decide +kernel
theorem d_L_give_0 : decode b_L_give 0 = .ok (.aload_n 2, 1) := by decide +kernel
theorem d_L_give_1 : decode b_L_give 1 = .ok (.iconst 0, 1) := by decide +kernel
theorem d_L_give_2 : decode b_L_give 2 = .ok (.aload_n 0, 1) := by decide +kernel
theorem d_L_give_3 : decode b_L_give 3 = .ok (.iload_n 1, 1) := by decide +kernel
theorem d_L_give_4 : decode b_L_give 4 = .ok (.invokevirtual 32, 3) := by decide +kernel
theorem d_L_give_7 : decode b_L_give 7 = .ok (.i2l, 1) := by decide +kernel
theorem d_L_give_8 : decode b_L_give 8 = .ok (.lastore, 1) := by decide +kernel
theorem d_L_give_9 : decode b_L_give 9 = .ok (.goto 9, 3) := by decide +kernel
theorem d_L_give_12 : decode b_L_give 12 = .ok (.astore_n 3, 1) := by decide +kernel
theorem d_L_give_13 : decode b_L_give 13 = .ok (.iconst 1, 1) := by decide +kernel
theorem d_L_give_14 : decode b_L_give 14 = .ok (.ireturn, 1) := by decide +kernel
theorem d_L_give_15 : decode b_L_give 15 = .ok (.astore_n 3, 1) := by decide +kernel
theorem d_L_give_16 : decode b_L_give 16 = .ok (.iconst 2, 1) := by decide +kernel
theorem d_L_give_17 : decode b_L_give 17 = .ok (.ireturn, 1) := by decide +kernel
theorem d_L_give_18 : decode b_L_give 18 = .ok (.iconst 0, 1) := by decide +kernel
theorem d_L_give_19 : decode b_L_give 19 = .ok (.ireturn, 1) := by decide +kernel
theorem d_L_finish_0 : decode b_L_finish 0 = .ok (.aload_n 1, 1) := by decide +kernel
theorem d_L_finish_1 : decode b_L_finish 1 = .ok (.iconst 0, 1) := by decide +kernel
theorem d_L_finish_2 : decode b_L_finish 2 = .ok (.aload_n 0, 1) := by decide +kernel
theorem d_L_finish_3 : decode b_L_finish 3 = .ok (.invokevirtual 35, 3) := by decide +kernel
theorem d_L_finish_6 : decode b_L_finish 6 = .ok (.i2l, 1) := by decide +kernel
theorem d_L_finish_7 : decode b_L_finish 7 = .ok (.lastore, 1) := by decide +kernel
theorem d_L_finish_8 : decode b_L_finish 8 = .ok (.goto 6, 3) := by decide +kernel
theorem d_L_finish_11 : decode b_L_finish 11 = .ok (.astore_n 2, 1) := by decide +kernel
theorem d_L_finish_12 : decode b_L_finish 12 = .ok (.iconst 1, 1) := by decide +kernel
theorem d_L_finish_13 : decode b_L_finish 13 = .ok (.ireturn, 1) := by decide +kernel
theorem d_L_finish_14 : decode b_L_finish 14 = .ok (.iconst 0, 1) := by decide +kernel
theorem d_L_finish_15 : decode b_L_finish 15 = .ok (.ireturn, 1) := by decide +kernel
theorem d_L_pass_0 : decode b_L_pass 0 = .ok (.aload_n 2, 1) := by decide +kernel
theorem d_L_pass_1 : decode b_L_pass 1 = .ok (.iconst 0, 1) := by decide +kernel
theorem d_L_pass_2 : decode b_L_pass 2 = .ok (.aload_n 0, 1) := by decide +kernel
theorem d_L_pass_3 : decode b_L_pass 3 = .ok (.iload_n 1, 1) := by decide +kernel
theorem d_L_pass_4 : decode b_L_pass 4 = .ok (.invokevirtual 38, 3) := by decide +kernel
theorem d_L_pass_7 : decode b_L_pass 7 = .ok (.i2l, 1) := by decide +kernel
theorem d_L_pass_8 : decode b_L_pass 8 = .ok (.lastore, 1) := by decide +kernel
theorem d_L_pass_9 : decode b_L_pass 9 = .ok (.goto 6, 3) := by decide +kernel
theorem d_L_pass_12 : decode b_L_pass 12 = .ok (.astore_n 3, 1) := by decide +kernel
theorem d_L_pass_13 : decode b_L_pass 13 = .ok (.iconst 1, 1) := by decide +kernel
theorem d_L_pass_14 : decode b_L_pass 14 = .ok (.ireturn, 1) := by decide +kernel
theorem d_L_pass_15 : decode b_L_pass 15 = .ok (.iconst 0, 1) := by decide +kernel
theorem d_L_pass_16 : decode b_L_pass 16 = .ok (.ireturn, 1) := by decide +kernel
theorem d_L_law_0 : decode b_L_law 0 = .ok (.new 8, 3) := by decide +kernel
theorem d_L_law_3 : decode b_L_law 3 = .ok (.dup, 1) := by decide +kernel
theorem d_L_law_4 : decode b_L_law 4 = .ok (.invokespecial 41, 3) := by decide +kernel
theorem d_L_law_7 : decode b_L_law 7 = .ok (.astore_n 1, 1) := by decide +kernel
theorem d_L_law_8 : decode b_L_law 8 = .ok (.new 42, 3) := by decide +kernel
theorem d_L_law_11 : decode b_L_law 11 = .ok (.dup, 1) := by decide +kernel
theorem d_L_law_12 : decode b_L_law 12 = .ok (.invokespecial 44, 3) := by decide +kernel
theorem d_L_law_15 : decode b_L_law 15 = .ok (.astore_n 2, 1) := by decide +kernel
theorem d_L_law_16 : decode b_L_law 16 = .ok (.iconst 1, 1) := by decide +kernel
theorem d_L_law_17 : decode b_L_law 17 = .ok (.newarray .long, 2) := by decide +kernel
theorem d_L_law_19 : decode b_L_law 19 = .ok (.astore_n 3, 1) := by decide +kernel
theorem d_L_law_20 : decode b_L_law 20 = .ok (.iconst 0, 1) := by decide +kernel
theorem d_L_law_21 : decode b_L_law 21 = .ok (.istore 4, 2) := by decide +kernel
theorem d_L_law_23 : decode b_L_law 23 = .ok (.iload 4, 2) := by decide +kernel
theorem d_L_law_25 : decode b_L_law 25 = .ok (.aload_n 0, 1) := by decide +kernel
theorem d_L_law_26 : decode b_L_law 26 = .ok (.arraylength, 1) := by decide +kernel
theorem d_L_law_27 : decode b_L_law 27 = .ok (.iconst 5, 1) := by decide +kernel
theorem d_L_law_28 : decode b_L_law 28 = .ok (.isub, 1) := by decide +kernel
theorem d_L_law_29 : decode b_L_law 29 = .ok (.if_icmp .gt 783, 3) := by decide +kernel
theorem d_L_law_32 : decode b_L_law 32 = .ok (.aload_n 0, 1) := by decide +kernel
theorem d_L_law_33 : decode b_L_law 33 = .ok (.iload 4, 2) := by decide +kernel
theorem d_L_law_35 : decode b_L_law 35 = .ok (.iaload, 1) := by decide +kernel
theorem d_L_law_36 : decode b_L_law 36 = .ok (.bipush 31, 2) := by decide +kernel
theorem d_L_law_38 : decode b_L_law 38 = .ok (.iand, 1) := by decide +kernel
theorem d_L_law_39 : decode b_L_law 39 = .ok (.tableswitch 767 0 17 #[85, 157, 217, 261, 317, 373, 429, 473, 529, 542, 567, 592, 617, 642, 679, 704, 729, 742], 85) := by decide +kernel
theorem d_L_law_124 : decode b_L_law 124 = .ok (.aload_n 1, 1) := by decide +kernel
theorem d_L_law_125 : decode b_L_law 125 = .ok (.aload_n 0, 1) := by decide +kernel
theorem d_L_law_126 : decode b_L_law 126 = .ok (.iload 4, 2) := by decide +kernel
theorem d_L_law_128 : decode b_L_law 128 = .ok (.iconst 1, 1) := by decide +kernel
theorem d_L_law_129 : decode b_L_law 129 = .ok (.iadd, 1) := by decide +kernel
theorem d_L_law_130 : decode b_L_law 130 = .ok (.iaload, 1) := by decide +kernel
theorem d_L_law_131 : decode b_L_law 131 = .ok (.aload_n 0, 1) := by decide +kernel
theorem d_L_law_132 : decode b_L_law 132 = .ok (.iload 4, 2) := by decide +kernel
theorem d_L_law_134 : decode b_L_law 134 = .ok (.iconst 2, 1) := by decide +kernel
theorem d_L_law_135 : decode b_L_law 135 = .ok (.iadd, 1) := by decide +kernel
theorem d_L_law_136 : decode b_L_law 136 = .ok (.iaload, 1) := by decide +kernel
