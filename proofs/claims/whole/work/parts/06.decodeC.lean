-- decode rows of the class
theorem d_C_init_0 : decode b_C_init 0 = .ok (.aload_n 0, 1) := by decide +kernel
theorem d_C_init_1 : decode b_C_init 1 = .ok (.invokespecial 1, 3) := by decide +kernel
theorem d_C_init_4 : decode b_C_init 4 = .ok (.aload_n 0, 1) := by decide +kernel
theorem d_C_init_5 : decode b_C_init 5 = .ok (.bipush 8, 2) := by decide +kernel
theorem d_C_init_7 : decode b_C_init 7 = .ok (.anewarray 9, 3) := by decide +kernel
theorem d_C_init_10 : decode b_C_init 10 = .ok (.putfield 11, 3) := by decide +kernel
theorem d_C_init_13 : decode b_C_init 13 = .ok (.aload_n 0, 1) := by decide +kernel
theorem d_C_init_14 : decode b_C_init 14 = .ok (.bipush 6, 2) := by decide +kernel
theorem d_C_init_16 : decode b_C_init 16 = .ok (.anewarray 15, 3) := by decide +kernel
theorem d_C_init_19 : decode b_C_init 19 = .ok (.putfield 17, 3) := by decide +kernel
theorem d_C_init_22 : decode b_C_init 22 = .ok (.aload_n 0, 1) := by decide +kernel
theorem d_C_init_23 : decode b_C_init 23 = .ok (.new 21, 3) := by decide +kernel
theorem d_C_init_26 : decode b_C_init 26 = .ok (.dup, 1) := by decide +kernel
theorem d_C_init_27 : decode b_C_init 27 = .ok (.invokespecial 23, 3) := by decide +kernel
theorem d_C_init_30 : decode b_C_init 30 = .ok (.putfield 24, 3) := by decide +kernel
theorem d_C_init_33 : decode b_C_init 33 = .ok (.aload_n 0, 1) := by decide +kernel
theorem d_C_init_34 : decode b_C_init 34 = .ok (.iconst 0, 1) := by decide +kernel
theorem d_C_init_35 : decode b_C_init 35 = .ok (.putfield 28, 3) := by decide +kernel
theorem d_C_init_38 : decode b_C_init 38 = .ok (.aload_n 0, 1) := by decide +kernel
theorem d_C_init_39 : decode b_C_init 39 = .ok (.iconst 0, 1) := by decide +kernel
theorem d_C_init_40 : decode b_C_init 40 = .ok (.putfield 32, 3) := by decide +kernel
theorem d_C_init_43 : decode b_C_init 43 = .ok (.aload_n 0, 1) := by decide +kernel
theorem d_C_init_44 : decode b_C_init 44 = .ok (.iconst 0, 1) := by decide +kernel
theorem d_C_init_45 : decode b_C_init 45 = .ok (.putfield 36, 3) := by decide +kernel
theorem d_C_init_48 : decode b_C_init 48 = .ok (.aload_n 0, 1) := by decide +kernel
theorem d_C_init_49 : decode b_C_init 49 = .ok (.iconst (-1), 1) := by decide +kernel
theorem d_C_init_50 : decode b_C_init 50 = .ok (.putfield 39, 3) := by decide +kernel
theorem d_C_init_53 : decode b_C_init 53 = .ok (.iconst 0, 1) := by decide +kernel
theorem d_C_init_54 : decode b_C_init 54 = .ok (.istore_n 1, 1) := by decide +kernel
theorem d_C_init_55 : decode b_C_init 55 = .ok (.iload_n 1, 1) := by decide +kernel
theorem d_C_init_56 : decode b_C_init 56 = .ok (.bipush 8, 2) := by decide +kernel
theorem d_C_init_58 : decode b_C_init 58 = .ok (.if_icmp .ge 22, 3) := by decide +kernel
theorem d_C_init_61 : decode b_C_init 61 = .ok (.aload_n 0, 1) := by decide +kernel
theorem d_C_init_62 : decode b_C_init 62 = .ok (.getfield 11, 3) := by decide +kernel
theorem d_C_init_65 : decode b_C_init 65 = .ok (.iload_n 1, 1) := by decide +kernel
theorem d_C_init_66 : decode b_C_init 66 = .ok (.new 9, 3) := by decide +kernel
theorem d_C_init_69 : decode b_C_init 69 = .ok (.dup, 1) := by decide +kernel
theorem d_C_init_70 : decode b_C_init 70 = .ok (.invokespecial 42, 3) := by decide +kernel
theorem d_C_init_73 : decode b_C_init 73 = .ok (.aastore, 1) := by decide +kernel
theorem d_C_init_74 : decode b_C_init 74 = .ok (.iinc 1 1, 3) := by decide +kernel
theorem d_C_init_77 : decode b_C_init 77 = .ok (.goto (-22), 3) := by decide +kernel
theorem d_C_init_80 : decode b_C_init 80 = .ok (.iconst 0, 1) := by decide +kernel
theorem d_C_init_81 : decode b_C_init 81 = .ok (.istore_n 1, 1) := by decide +kernel
theorem d_C_init_82 : decode b_C_init 82 = .ok (.iload_n 1, 1) := by decide +kernel
theorem d_C_init_83 : decode b_C_init 83 = .ok (.bipush 6, 2) := by decide +kernel
theorem d_C_init_85 : decode b_C_init 85 = .ok (.if_icmp .ge 22, 3) := by decide +kernel
theorem d_C_init_88 : decode b_C_init 88 = .ok (.aload_n 0, 1) := by decide +kernel
theorem d_C_init_89 : decode b_C_init 89 = .ok (.getfield 17, 3) := by decide +kernel
theorem d_C_init_92 : decode b_C_init 92 = .ok (.iload_n 1, 1) := by decide +kernel
theorem d_C_init_93 : decode b_C_init 93 = .ok (.new 15, 3) := by decide +kernel
theorem d_C_init_96 : decode b_C_init 96 = .ok (.dup, 1) := by decide +kernel
theorem d_C_init_97 : decode b_C_init 97 = .ok (.invokespecial 43, 3) := by decide +kernel
theorem d_C_init_100 : decode b_C_init 100 = .ok (.aastore, 1) := by decide +kernel
theorem d_C_init_101 : decode b_C_init 101 = .ok (.iinc 1 1, 3) := by decide +kernel
theorem d_C_init_104 : decode b_C_init 104 = .ok (.goto (-22), 3) := by decide +kernel
theorem d_C_init_107 : decode b_C_init 107 = .ok (.return_, 1) := by decide +kernel
theorem d_C_declare_0 : decode b_C_declare 0 = .ok (.aload_n 0, 1) := by decide +kernel
theorem d_C_declare_1 : decode b_C_declare 1 = .ok (.getfield 28, 3) := by decide +kernel
theorem d_C_declare_4 : decode b_C_declare 4 = .ok (.ifCond .ne 11, 3) := by decide +kernel
theorem d_C_declare_7 : decode b_C_declare 7 = .ok (.aload_n 0, 1) := by decide +kernel
theorem d_C_declare_8 : decode b_C_declare 8 = .ok (.iload_n 1, 1) := by decide +kernel
theorem d_C_declare_9 : decode b_C_declare 9 = .ok (.invokevirtual 44, 3) := by decide +kernel
theorem d_C_declare_12 : decode b_C_declare 12 = .ok (.ifCond .eq 13, 3) := by decide +kernel
theorem d_C_declare_15 : decode b_C_declare 15 = .ok (.new 48, 3) := by decide +kernel
theorem d_C_declare_18 : decode b_C_declare 18 = .ok (.dup, 1) := by decide +kernel
theorem d_C_declare_19 : decode b_C_declare 19 = .ok (.ldc 50, 2) := by decide +kernel
theorem d_C_declare_21 : decode b_C_declare 21 = .ok (.invokespecial 52, 3) := by decide +kernel
theorem d_C_declare_24 : decode b_C_declare 24 = .ok (.athrow, 1) := by decide +kernel
theorem d_C_declare_25 : decode b_C_declare 25 = .ok (.iload_n 1, 1) := by decide +kernel
theorem d_C_declare_26 : decode b_C_declare 26 = .ok (.iconst 0, 1) := by decide +kernel
theorem d_C_declare_27 : decode b_C_declare 27 = .ok (.bipush 7, 2) := by decide +kernel
theorem d_C_declare_29 : decode b_C_declare 29 = .ok (.invokestatic 55, 3) := by decide +kernel
theorem d_C_declare_32 : decode b_C_declare 32 = .ok (.ifCond .eq 35, 3) := by decide +kernel
theorem d_C_declare_35 : decode b_C_declare 35 = .ok (.iload_n 2, 1) := by decide +kernel
theorem d_C_declare_36 : decode b_C_declare 36 = .ok (.iconst 1, 1) := by decide +kernel
theorem d_C_declare_37 : decode b_C_declare 37 = .ok (.bipush 16, 2) := by decide +kernel
theorem d_C_declare_39 : decode b_C_declare 39 = .ok (.invokestatic 55, 3) := by decide +kernel
theorem d_C_declare_42 : decode b_C_declare 42 = .ok (.ifCond .eq 25, 3) := by decide +kernel
theorem d_C_declare_45 : decode b_C_declare 45 = .ok (.iload_n 3, 1) := by decide +kernel
theorem d_C_declare_46 : decode b_C_declare 46 = .ok (.iconst 1, 1) := by decide +kernel
theorem d_C_declare_47 : decode b_C_declare 47 = .ok (.bipush 50, 2) := by decide +kernel
theorem d_C_declare_49 : decode b_C_declare 49 = .ok (.invokestatic 55, 3) := by decide +kernel
theorem d_C_declare_52 : decode b_C_declare 52 = .ok (.ifCond .eq 15, 3) := by decide +kernel
theorem d_C_declare_55 : decode b_C_declare 55 = .ok (.iload 4, 2) := by decide +kernel
theorem d_C_declare_57 : decode b_C_declare 57 = .ok (.iconst 1, 1) := by decide +kernel
theorem d_C_declare_58 : decode b_C_declare 58 = .ok (.sipush 200, 3) := by decide +kernel
theorem d_C_declare_61 : decode b_C_declare 61 = .ok (.invokestatic 55, 3) := by decide +kernel
theorem d_C_declare_64 : decode b_C_declare 64 = .ok (.ifCond .ne 13, 3) := by decide +kernel
theorem d_C_declare_67 : decode b_C_declare 67 = .ok (.new 59, 3) := by decide +kernel
theorem d_C_declare_70 : decode b_C_declare 70 = .ok (.dup, 1) := by decide +kernel
theorem d_C_declare_71 : decode b_C_declare 71 = .ok (.ldc 61, 2) := by decide +kernel
theorem d_C_declare_73 : decode b_C_declare 73 = .ok (.invokespecial 63, 3) := by decide +kernel
theorem d_C_declare_76 : decode b_C_declare 76 = .ok (.athrow, 1) := by decide +kernel
theorem d_C_declare_77 : decode b_C_declare 77 = .ok (.aload_n 0, 1) := by decide +kernel
theorem d_C_declare_78 : decode b_C_declare 78 = .ok (.getfield 11, 3) := by decide +kernel
theorem d_C_declare_81 : decode b_C_declare 81 = .ok (.iload_n 1, 1) := by decide +kernel
theorem d_C_declare_82 : decode b_C_declare 82 = .ok (.aaload, 1) := by decide +kernel
theorem d_C_declare_83 : decode b_C_declare 83 = .ok (.astore 5, 2) := by decide +kernel
theorem d_C_declare_85 : decode b_C_declare 85 = .ok (.aload 5, 2) := by decide +kernel
theorem d_C_declare_87 : decode b_C_declare 87 = .ok (.iload_n 2, 1) := by decide +kernel
theorem d_C_declare_88 : decode b_C_declare 88 = .ok (.putfield 64, 3) := by decide +kernel
theorem d_C_declare_91 : decode b_C_declare 91 = .ok (.aload 5, 2) := by decide +kernel
theorem d_C_declare_93 : decode b_C_declare 93 = .ok (.iload_n 3, 1) := by decide +kernel
theorem d_C_declare_94 : decode b_C_declare 94 = .ok (.putfield 67, 3) := by decide +kernel
theorem d_C_declare_97 : decode b_C_declare 97 = .ok (.aload 5, 2) := by decide +kernel
theorem d_C_declare_99 : decode b_C_declare 99 = .ok (.iload 4, 2) := by decide +kernel
theorem d_C_declare_101 : decode b_C_declare 101 = .ok (.putfield 70, 3) := by decide +kernel
theorem d_C_declare_104 : decode b_C_declare 104 = .ok (.return_, 1) := by decide +kernel
theorem d_C_mayUse_0 : decode b_C_mayUse 0 = .ok (.aload_n 0, 1) := by decide +kernel
theorem d_C_mayUse_1 : decode b_C_mayUse 1 = .ok (.getfield 28, 3) := by decide +kernel
theorem d_C_mayUse_4 : decode b_C_mayUse 4 = .ok (.ifCond .eq 13, 3) := by decide +kernel
theorem d_C_mayUse_7 : decode b_C_mayUse 7 = .ok (.new 48, 3) := by decide +kernel
theorem d_C_mayUse_10 : decode b_C_mayUse 10 = .ok (.dup, 1) := by decide +kernel
theorem d_C_mayUse_11 : decode b_C_mayUse 11 = .ok (.ldc 73, 2) := by decide +kernel
theorem d_C_mayUse_13 : decode b_C_mayUse 13 = .ok (.invokespecial 52, 3) := by decide +kernel
theorem d_C_mayUse_16 : decode b_C_mayUse 16 = .ok (.athrow, 1) := by decide +kernel
theorem d_C_mayUse_17 : decode b_C_mayUse 17 = .ok (.aload_n 0, 1) := by decide +kernel
theorem d_C_mayUse_18 : decode b_C_mayUse 18 = .ok (.iload_n 1, 1) := by decide +kernel
theorem d_C_mayUse_19 : decode b_C_mayUse 19 = .ok (.invokevirtual 44, 3) := by decide +kernel
theorem d_C_mayUse_22 : decode b_C_mayUse 22 = .ok (.ifCond .eq 20, 3) := by decide +kernel
theorem d_C_mayUse_25 : decode b_C_mayUse 25 = .ok (.iload_n 2, 1) := by decide +kernel
theorem d_C_mayUse_26 : decode b_C_mayUse 26 = .ok (.invokestatic 74, 3) := by decide +kernel
theorem d_C_mayUse_29 : decode b_C_mayUse 29 = .ok (.ifCond .eq 13, 3) := by decide +kernel
theorem d_C_mayUse_32 : decode b_C_mayUse 32 = .ok (.iload_n 3, 1) := by decide +kernel
theorem d_C_mayUse_33 : decode b_C_mayUse 33 = .ok (.iconst 1, 1) := by decide +kernel
theorem d_C_mayUse_34 : decode b_C_mayUse 34 = .ok (.bipush 50, 2) := by decide +kernel
theorem d_C_mayUse_36 : decode b_C_mayUse 36 = .ok (.invokestatic 55, 3) := by decide +kernel
theorem d_C_mayUse_39 : decode b_C_mayUse 39 = .ok (.ifCond .ne 13, 3) := by decide +kernel
theorem d_C_mayUse_42 : decode b_C_mayUse 42 = .ok (.new 59, 3) := by decide +kernel
theorem d_C_mayUse_45 : decode b_C_mayUse 45 = .ok (.dup, 1) := by decide +kernel
theorem d_C_mayUse_46 : decode b_C_mayUse 46 = .ok (.ldc 77, 2) := by decide +kernel
theorem d_C_mayUse_48 : decode b_C_mayUse 48 = .ok (.invokespecial 63, 3) := by decide +kernel
theorem d_C_mayUse_51 : decode b_C_mayUse 51 = .ok (.athrow, 1) := by decide +kernel
theorem d_C_mayUse_52 : decode b_C_mayUse 52 = .ok (.aload_n 0, 1) := by decide +kernel
theorem d_C_mayUse_53 : decode b_C_mayUse 53 = .ok (.getfield 11, 3) := by decide +kernel
theorem d_C_mayUse_56 : decode b_C_mayUse 56 = .ok (.iload_n 1, 1) := by decide +kernel
theorem d_C_mayUse_57 : decode b_C_mayUse 57 = .ok (.aaload, 1) := by decide +kernel
theorem d_C_mayUse_58 : decode b_C_mayUse 58 = .ok (.getfield 79, 3) := by decide +kernel
theorem d_C_mayUse_61 : decode b_C_mayUse 61 = .ok (.iload_n 2, 1) := by decide +kernel
theorem d_C_mayUse_62 : decode b_C_mayUse 62 = .ok (.iload_n 3, 1) := by decide +kernel
theorem d_C_mayUse_63 : decode b_C_mayUse 63 = .ok (.iastore, 1) := by decide +kernel
theorem d_C_mayUse_64 : decode b_C_mayUse 64 = .ok (.return_, 1) := by decide +kernel
theorem d_C_seal_0 : decode b_C_seal 0 = .ok (.aload_n 0, 1) := by decide +kernel
theorem d_C_seal_1 : decode b_C_seal 1 = .ok (.getfield 28, 3) := by decide +kernel
theorem d_C_seal_4 : decode b_C_seal 4 = .ok (.ifCond .eq 13, 3) := by decide +kernel
theorem d_C_seal_7 : decode b_C_seal 7 = .ok (.new 48, 3) := by decide +kernel
theorem d_C_seal_10 : decode b_C_seal 10 = .ok (.dup, 1) := by decide +kernel
theorem d_C_seal_11 : decode b_C_seal 11 = .ok (.ldc 73, 2) := by decide +kernel
theorem d_C_seal_13 : decode b_C_seal 13 = .ok (.invokespecial 52, 3) := by decide +kernel
theorem d_C_seal_16 : decode b_C_seal 16 = .ok (.athrow, 1) := by decide +kernel
theorem d_C_seal_17 : decode b_C_seal 17 = .ok (.aload_n 0, 1) := by decide +kernel
theorem d_C_seal_18 : decode b_C_seal 18 = .ok (.iconst 1, 1) := by decide +kernel
theorem d_C_seal_19 : decode b_C_seal 19 = .ok (.putfield 28, 3) := by decide +kernel
theorem d_C_seal_22 : decode b_C_seal 22 = .ok (.iconst 0, 1) := by decide +kernel
theorem d_C_seal_23 : decode b_C_seal 23 = .ok (.istore_n 1, 1) := by decide +kernel
theorem d_C_seal_24 : decode b_C_seal 24 = .ok (.iload_n 1, 1) := by decide +kernel
theorem d_C_seal_25 : decode b_C_seal 25 = .ok (.bipush 6, 2) := by decide +kernel
theorem d_C_seal_27 : decode b_C_seal 27 = .ok (.if_icmp .ge 23, 3) := by decide +kernel
theorem d_C_seal_30 : decode b_C_seal 30 = .ok (.aload_n 0, 1) := by decide +kernel
theorem d_C_seal_31 : decode b_C_seal 31 = .ok (.getfield 17, 3) := by decide +kernel
theorem d_C_seal_34 : decode b_C_seal 34 = .ok (.iload_n 1, 1) := by decide +kernel
theorem d_C_seal_35 : decode b_C_seal 35 = .ok (.aaload, 1) := by decide +kernel
theorem d_C_seal_36 : decode b_C_seal 36 = .ok (.aload_n 0, 1) := by decide +kernel
theorem d_C_seal_37 : decode b_C_seal 37 = .ok (.iload_n 1, 1) := by decide +kernel
theorem d_C_seal_38 : decode b_C_seal 38 = .ok (.invokevirtual 83, 3) := by decide +kernel
theorem d_C_seal_41 : decode b_C_seal 41 = .ok (.putfield 87, 3) := by decide +kernel
theorem d_C_seal_44 : decode b_C_seal 44 = .ok (.iinc 1 1, 3) := by decide +kernel
theorem d_C_seal_47 : decode b_C_seal 47 = .ok (.goto (-23), 3) := by decide +kernel
theorem d_C_seal_50 : decode b_C_seal 50 = .ok (.aload_n 0, 1) := by decide +kernel
theorem d_C_seal_51 : decode b_C_seal 51 = .ok (.invokevirtual 90, 3) := by decide +kernel
theorem d_C_seal_54 : decode b_C_seal 54 = .ok (.ireturn, 1) := by decide +kernel
theorem d_C_release_0 : decode b_C_release 0 = .ok (.aload_n 0, 1) := by decide +kernel
theorem d_C_release_1 : decode b_C_release 1 = .ok (.getfield 28, 3) := by decide +kernel
theorem d_C_release_4 : decode b_C_release 4 = .ok (.ifCond .eq 11, 3) := by decide +kernel
theorem d_C_release_7 : decode b_C_release 7 = .ok (.aload_n 0, 1) := by decide +kernel
theorem d_C_release_8 : decode b_C_release 8 = .ok (.iload_n 1, 1) := by decide +kernel
theorem d_C_release_9 : decode b_C_release 9 = .ok (.invokevirtual 94, 3) := by decide +kernel
theorem d_C_release_12 : decode b_C_release 12 = .ok (.ifCond .eq 13, 3) := by decide +kernel
theorem d_C_release_15 : decode b_C_release 15 = .ok (.new 48, 3) := by decide +kernel
theorem d_C_release_18 : decode b_C_release 18 = .ok (.dup, 1) := by decide +kernel
theorem d_C_release_19 : decode b_C_release 19 = .ok (.ldc 97, 2) := by decide +kernel
theorem d_C_release_21 : decode b_C_release 21 = .ok (.invokespecial 52, 3) := by decide +kernel
theorem d_C_release_24 : decode b_C_release 24 = .ok (.athrow, 1) := by decide +kernel
theorem d_C_release_25 : decode b_C_release 25 = .ok (.aload_n 0, 1) := by decide +kernel
theorem d_C_release_26 : decode b_C_release 26 = .ok (.iload_n 1, 1) := by decide +kernel
theorem d_C_release_27 : decode b_C_release 27 = .ok (.invokevirtual 44, 3) := by decide +kernel
theorem d_C_release_30 : decode b_C_release 30 = .ok (.ifCond .ne 13, 3) := by decide +kernel
theorem d_C_release_33 : decode b_C_release 33 = .ok (.new 59, 3) := by decide +kernel
theorem d_C_release_36 : decode b_C_release 36 = .ok (.dup, 1) := by decide +kernel
theorem d_C_release_37 : decode b_C_release 37 = .ok (.ldc 99, 2) := by decide +kernel
theorem d_C_release_39 : decode b_C_release 39 = .ok (.invokespecial 63, 3) := by decide +kernel
theorem d_C_release_42 : decode b_C_release 42 = .ok (.athrow, 1) := by decide +kernel
theorem d_C_release_43 : decode b_C_release 43 = .ok (.aload_n 0, 1) := by decide +kernel
theorem d_C_release_44 : decode b_C_release 44 = .ok (.dup, 1) := by decide +kernel
theorem d_C_release_45 : decode b_C_release 45 = .ok (.getfield 36, 3) := by decide +kernel
theorem d_C_release_48 : decode b_C_release 48 = .ok (.iconst 1, 1) := by decide +kernel
theorem d_C_release_49 : decode b_C_release 49 = .ok (.iadd, 1) := by decide +kernel
theorem d_C_release_50 : decode b_C_release 50 = .ok (.putfield 36, 3) := by decide +kernel
theorem d_C_release_53 : decode b_C_release 53 = .ok (.aload_n 0, 1) := by decide +kernel
theorem d_C_release_54 : decode b_C_release 54 = .ok (.getfield 11, 3) := by decide +kernel
theorem d_C_release_57 : decode b_C_release 57 = .ok (.iload_n 1, 1) := by decide +kernel
theorem d_C_release_58 : decode b_C_release 58 = .ok (.aaload, 1) := by decide +kernel
theorem d_C_release_59 : decode b_C_release 59 = .ok (.aload_n 0, 1) := by decide +kernel
theorem d_C_release_60 : decode b_C_release 60 = .ok (.getfield 36, 3) := by decide +kernel
theorem d_C_release_63 : decode b_C_release 63 = .ok (.invokevirtual 101, 3) := by decide +kernel
theorem d_C_release_66 : decode b_C_release 66 = .ok (.aload_n 0, 1) := by decide +kernel
theorem d_C_release_67 : decode b_C_release 67 = .ok (.iconst 1, 1) := by decide +kernel
theorem d_C_release_68 : decode b_C_release 68 = .ok (.iload_n 1, 1) := by decide +kernel
theorem d_C_release_69 : decode b_C_release 69 = .ok (.bipush 15, 2) := by decide +kernel
theorem d_C_release_71 : decode b_C_release 71 = .ok (.invokevirtual 105, 3) := by decide +kernel
theorem d_C_release_74 : decode b_C_release 74 = .ok (.aload_n 0, 1) := by decide +kernel
theorem d_C_release_75 : decode b_C_release 75 = .ok (.getfield 36, 3) := by decide +kernel
theorem d_C_release_78 : decode b_C_release 78 = .ok (.ireturn, 1) := by decide +kernel
theorem d_C_take_0 : decode b_C_take 0 = .ok (.aload_n 0, 1) := by decide +kernel
theorem d_C_take_1 : decode b_C_take 1 = .ok (.getfield 28, 3) := by decide +kernel
theorem d_C_take_4 : decode b_C_take 4 = .ok (.ifCond .eq 19, 3) := by decide +kernel
theorem d_C_take_7 : decode b_C_take 7 = .ok (.aload_n 0, 1) := by decide +kernel
theorem d_C_take_8 : decode b_C_take 8 = .ok (.getfield 39, 3) := by decide +kernel
theorem d_C_take_11 : decode b_C_take 11 = .ok (.iconst (-1), 1) := by decide +kernel
theorem d_C_take_12 : decode b_C_take 12 = .ok (.if_icmp .eq 11, 3) := by decide +kernel
theorem d_C_take_15 : decode b_C_take 15 = .ok (.aload_n 0, 1) := by decide +kernel
theorem d_C_take_16 : decode b_C_take 16 = .ok (.iload_n 1, 1) := by decide +kernel
theorem d_C_take_17 : decode b_C_take 17 = .ok (.invokevirtual 109, 3) := by decide +kernel
theorem d_C_take_20 : decode b_C_take 20 = .ok (.ifCond .eq 13, 3) := by decide +kernel
theorem d_C_take_23 : decode b_C_take 23 = .ok (.new 48, 3) := by decide +kernel
theorem d_C_take_26 : decode b_C_take 26 = .ok (.dup, 1) := by decide +kernel
theorem d_C_take_27 : decode b_C_take 27 = .ok (.ldc 112, 2) := by decide +kernel
theorem d_C_take_29 : decode b_C_take 29 = .ok (.invokespecial 52, 3) := by decide +kernel
theorem d_C_take_32 : decode b_C_take 32 = .ok (.athrow, 1) := by decide +kernel
theorem d_C_take_33 : decode b_C_take 33 = .ok (.iload_n 1, 1) := by decide +kernel
theorem d_C_take_34 : decode b_C_take 34 = .ok (.invokestatic 74, 3) := by decide +kernel
theorem d_C_take_37 : decode b_C_take 37 = .ok (.ifCond .eq 19, 3) := by decide +kernel
theorem d_C_take_40 : decode b_C_take 40 = .ok (.aload_n 0, 1) := by decide +kernel
theorem d_C_take_41 : decode b_C_take 41 = .ok (.getfield 11, 3) := by decide +kernel
theorem d_C_take_44 : decode b_C_take 44 = .ok (.aload_n 0, 1) := by decide +kernel
theorem d_C_take_45 : decode b_C_take 45 = .ok (.getfield 39, 3) := by decide +kernel
theorem d_C_take_48 : decode b_C_take 48 = .ok (.aaload, 1) := by decide +kernel
theorem d_C_take_49 : decode b_C_take 49 = .ok (.iload_n 1, 1) := by decide +kernel
theorem d_C_take_50 : decode b_C_take 50 = .ok (.invokevirtual 114, 3) := by decide +kernel
theorem d_C_take_53 : decode b_C_take 53 = .ok (.ifCond .ne 13, 3) := by decide +kernel
theorem d_C_take_56 : decode b_C_take 56 = .ok (.new 59, 3) := by decide +kernel
theorem d_C_take_59 : decode b_C_take 59 = .ok (.dup, 1) := by decide +kernel
theorem d_C_take_60 : decode b_C_take 60 = .ok (.ldc 117, 2) := by decide +kernel
theorem d_C_take_62 : decode b_C_take 62 = .ok (.invokespecial 63, 3) := by decide +kernel
theorem d_C_take_65 : decode b_C_take 65 = .ok (.athrow, 1) := by decide +kernel
theorem d_C_take_66 : decode b_C_take 66 = .ok (.aload_n 0, 1) := by decide +kernel
theorem d_C_take_67 : decode b_C_take 67 = .ok (.getfield 11, 3) := by decide +kernel
theorem d_C_take_70 : decode b_C_take 70 = .ok (.aload_n 0, 1) := by decide +kernel
theorem d_C_take_71 : decode b_C_take 71 = .ok (.getfield 39, 3) := by decide +kernel
theorem d_C_take_74 : decode b_C_take 74 = .ok (.aaload, 1) := by decide +kernel
theorem d_C_take_75 : decode b_C_take 75 = .ok (.astore_n 2, 1) := by decide +kernel
theorem d_C_take_76 : decode b_C_take 76 = .ok (.aload_n 0, 1) := by decide +kernel
theorem d_C_take_77 : decode b_C_take 77 = .ok (.getfield 17, 3) := by decide +kernel
theorem d_C_take_80 : decode b_C_take 80 = .ok (.iload_n 1, 1) := by decide +kernel
theorem d_C_take_81 : decode b_C_take 81 = .ok (.aaload, 1) := by decide +kernel
theorem d_C_take_82 : decode b_C_take 82 = .ok (.astore_n 3, 1) := by decide +kernel
theorem d_C_take_83 : decode b_C_take 83 = .ok (.aload_n 3, 1) := by decide +kernel
theorem d_C_take_84 : decode b_C_take 84 = .ok (.aload_n 0, 1) := by decide +kernel
theorem d_C_take_85 : decode b_C_take 85 = .ok (.getfield 39, 3) := by decide +kernel
theorem d_C_take_88 : decode b_C_take 88 = .ok (.putfield 119, 3) := by decide +kernel
theorem d_C_take_91 : decode b_C_take 91 = .ok (.aload_n 3, 1) := by decide +kernel
theorem d_C_take_92 : decode b_C_take 92 = .ok (.aload_n 2, 1) := by decide +kernel
theorem d_C_take_93 : decode b_C_take 93 = .ok (.getfield 122, 3) := by decide +kernel
theorem d_C_take_96 : decode b_C_take 96 = .ok (.putfield 125, 3) := by decide +kernel
theorem d_C_take_99 : decode b_C_take 99 = .ok (.aload_n 3, 1) := by decide +kernel
theorem d_C_take_100 : decode b_C_take 100 = .ok (.aload_n 2, 1) := by decide +kernel
theorem d_C_take_101 : decode b_C_take 101 = .ok (.getfield 128, 3) := by decide +kernel
theorem d_C_take_104 : decode b_C_take 104 = .ok (.putfield 131, 3) := by decide +kernel
theorem d_C_take_107 : decode b_C_take 107 = .ok (.aload_n 2, 1) := by decide +kernel
theorem d_C_take_108 : decode b_C_take 108 = .ok (.iload_n 1, 1) := by decide +kernel
theorem d_C_take_109 : decode b_C_take 109 = .ok (.putfield 122, 3) := by decide +kernel
theorem d_C_take_112 : decode b_C_take 112 = .ok (.aload_n 2, 1) := by decide +kernel
theorem d_C_take_113 : decode b_C_take 113 = .ok (.aload_n 2, 1) := by decide +kernel
theorem d_C_take_114 : decode b_C_take 114 = .ok (.getfield 128, 3) := by decide +kernel
theorem d_C_take_117 : decode b_C_take 117 = .ok (.aload_n 3, 1) := by decide +kernel
theorem d_C_take_118 : decode b_C_take 118 = .ok (.getfield 87, 3) := by decide +kernel
theorem d_C_take_121 : decode b_C_take 121 = .ok (.invokestatic 134, 3) := by decide +kernel
theorem d_C_take_124 : decode b_C_take 124 = .ok (.putfield 128, 3) := by decide +kernel
theorem d_C_take_127 : decode b_C_take 127 = .ok (.aload_n 0, 1) := by decide +kernel
theorem d_C_take_128 : decode b_C_take 128 = .ok (.iconst 2, 1) := by decide +kernel
theorem d_C_take_129 : decode b_C_take 129 = .ok (.aload_n 0, 1) := by decide +kernel
theorem d_C_take_130 : decode b_C_take 130 = .ok (.getfield 39, 3) := by decide +kernel
theorem d_C_take_133 : decode b_C_take 133 = .ok (.iload_n 1, 1) := by decide +kernel
theorem d_C_take_134 : decode b_C_take 134 = .ok (.invokevirtual 105, 3) := by decide +kernel
theorem d_C_take_137 : decode b_C_take 137 = .ok (.aload_n 2, 1) := by decide +kernel
theorem d_C_take_138 : decode b_C_take 138 = .ok (.getfield 128, 3) := by decide +kernel
theorem d_C_take_141 : decode b_C_take 141 = .ok (.ireturn, 1) := by decide +kernel
theorem d_C_give_0 : decode b_C_give 0 = .ok (.aload_n 0, 1) := by decide +kernel
theorem d_C_give_1 : decode b_C_give 1 = .ok (.getfield 39, 3) := by decide +kernel
theorem d_C_give_4 : decode b_C_give 4 = .ok (.iconst (-1), 1) := by decide +kernel
theorem d_C_give_5 : decode b_C_give 5 = .ok (.if_icmp .ne 13, 3) := by decide +kernel
theorem d_C_give_8 : decode b_C_give 8 = .ok (.new 48, 3) := by decide +kernel
theorem d_C_give_11 : decode b_C_give 11 = .ok (.dup, 1) := by decide +kernel
theorem d_C_give_12 : decode b_C_give 12 = .ok (.ldc 140, 2) := by decide +kernel
theorem d_C_give_14 : decode b_C_give 14 = .ok (.invokespecial 52, 3) := by decide +kernel
theorem d_C_give_17 : decode b_C_give 17 = .ok (.athrow, 1) := by decide +kernel
theorem d_C_give_18 : decode b_C_give 18 = .ok (.iload_n 1, 1) := by decide +kernel
theorem d_C_give_19 : decode b_C_give 19 = .ok (.invokestatic 74, 3) := by decide +kernel
theorem d_C_give_22 : decode b_C_give 22 = .ok (.ifCond .eq 19, 3) := by decide +kernel
theorem d_C_give_25 : decode b_C_give 25 = .ok (.aload_n 0, 1) := by decide +kernel
theorem d_C_give_26 : decode b_C_give 26 = .ok (.getfield 11, 3) := by decide +kernel
theorem d_C_give_29 : decode b_C_give 29 = .ok (.aload_n 0, 1) := by decide +kernel
theorem d_C_give_30 : decode b_C_give 30 = .ok (.getfield 39, 3) := by decide +kernel
theorem d_C_give_33 : decode b_C_give 33 = .ok (.aaload, 1) := by decide +kernel
theorem d_C_give_34 : decode b_C_give 34 = .ok (.getfield 122, 3) := by decide +kernel
theorem d_C_give_37 : decode b_C_give 37 = .ok (.iload_n 1, 1) := by decide +kernel
theorem d_C_give_38 : decode b_C_give 38 = .ok (.if_icmp .eq 13, 3) := by decide +kernel
theorem d_C_give_41 : decode b_C_give 41 = .ok (.new 59, 3) := by decide +kernel
theorem d_C_give_44 : decode b_C_give 44 = .ok (.dup, 1) := by decide +kernel
theorem d_C_give_45 : decode b_C_give 45 = .ok (.ldc 142, 2) := by decide +kernel
theorem d_C_give_47 : decode b_C_give 47 = .ok (.invokespecial 63, 3) := by decide +kernel
theorem d_C_give_50 : decode b_C_give 50 = .ok (.athrow, 1) := by decide +kernel
theorem d_C_give_51 : decode b_C_give 51 = .ok (.aload_n 0, 1) := by decide +kernel
theorem d_C_give_52 : decode b_C_give 52 = .ok (.getfield 11, 3) := by decide +kernel
theorem d_C_give_55 : decode b_C_give 55 = .ok (.aload_n 0, 1) := by decide +kernel
theorem d_C_give_56 : decode b_C_give 56 = .ok (.getfield 39, 3) := by decide +kernel
theorem d_C_give_59 : decode b_C_give 59 = .ok (.aaload, 1) := by decide +kernel
theorem d_C_give_60 : decode b_C_give 60 = .ok (.astore_n 2, 1) := by decide +kernel
theorem d_C_give_61 : decode b_C_give 61 = .ok (.aload_n 0, 1) := by decide +kernel
theorem d_C_give_62 : decode b_C_give 62 = .ok (.getfield 17, 3) := by decide +kernel
theorem d_C_give_65 : decode b_C_give 65 = .ok (.iload_n 1, 1) := by decide +kernel
theorem d_C_give_66 : decode b_C_give 66 = .ok (.aaload, 1) := by decide +kernel
theorem d_C_give_67 : decode b_C_give 67 = .ok (.astore_n 3, 1) := by decide +kernel
theorem d_C_give_68 : decode b_C_give 68 = .ok (.aload_n 2, 1) := by decide +kernel
theorem d_C_give_69 : decode b_C_give 69 = .ok (.aload_n 3, 1) := by decide +kernel
theorem d_C_give_70 : decode b_C_give 70 = .ok (.getfield 125, 3) := by decide +kernel
theorem d_C_give_73 : decode b_C_give 73 = .ok (.putfield 122, 3) := by decide +kernel
theorem d_C_give_76 : decode b_C_give 76 = .ok (.aload_n 2, 1) := by decide +kernel
theorem d_C_give_77 : decode b_C_give 77 = .ok (.aload_n 3, 1) := by decide +kernel
theorem d_C_give_78 : decode b_C_give 78 = .ok (.getfield 131, 3) := by decide +kernel
theorem d_C_give_81 : decode b_C_give 81 = .ok (.putfield 128, 3) := by decide +kernel
theorem d_C_give_84 : decode b_C_give 84 = .ok (.aload_n 3, 1) := by decide +kernel
theorem d_C_give_85 : decode b_C_give 85 = .ok (.iconst (-1), 1) := by decide +kernel
theorem d_C_give_86 : decode b_C_give 86 = .ok (.putfield 119, 3) := by decide +kernel
theorem d_C_give_89 : decode b_C_give 89 = .ok (.aload_n 0, 1) := by decide +kernel
theorem d_C_give_90 : decode b_C_give 90 = .ok (.iconst 3, 1) := by decide +kernel
theorem d_C_give_91 : decode b_C_give 91 = .ok (.aload_n 0, 1) := by decide +kernel
theorem d_C_give_92 : decode b_C_give 92 = .ok (.getfield 39, 3) := by decide +kernel
theorem d_C_give_95 : decode b_C_give 95 = .ok (.iload_n 1, 1) := by decide +kernel
theorem d_C_give_96 : decode b_C_give 96 = .ok (.invokevirtual 105, 3) := by decide +kernel
theorem d_C_give_99 : decode b_C_give 99 = .ok (.aload_n 2, 1) := by decide +kernel
theorem d_C_give_100 : decode b_C_give 100 = .ok (.getfield 128, 3) := by decide +kernel
theorem d_C_give_103 : decode b_C_give 103 = .ok (.ireturn, 1) := by decide +kernel
theorem d_C_finish_0 : decode b_C_finish 0 = .ok (.aload_n 0, 1) := by decide +kernel
theorem d_C_finish_1 : decode b_C_finish 1 = .ok (.getfield 39, 3) := by decide +kernel
theorem d_C_finish_4 : decode b_C_finish 4 = .ok (.iconst (-1), 1) := by decide +kernel
theorem d_C_finish_5 : decode b_C_finish 5 = .ok (.if_icmp .eq 19, 3) := by decide +kernel
theorem d_C_finish_8 : decode b_C_finish 8 = .ok (.aload_n 0, 1) := by decide +kernel
theorem d_C_finish_9 : decode b_C_finish 9 = .ok (.getfield 11, 3) := by decide +kernel
theorem d_C_finish_12 : decode b_C_finish 12 = .ok (.aload_n 0, 1) := by decide +kernel
theorem d_C_finish_13 : decode b_C_finish 13 = .ok (.getfield 39, 3) := by decide +kernel
theorem d_C_finish_16 : decode b_C_finish 16 = .ok (.aaload, 1) := by decide +kernel
theorem d_C_finish_17 : decode b_C_finish 17 = .ok (.getfield 122, 3) := by decide +kernel
theorem d_C_finish_20 : decode b_C_finish 20 = .ok (.iconst (-1), 1) := by decide +kernel
theorem d_C_finish_21 : decode b_C_finish 21 = .ok (.if_icmp .eq 13, 3) := by decide +kernel
theorem d_C_finish_24 : decode b_C_finish 24 = .ok (.new 48, 3) := by decide +kernel
theorem d_C_finish_27 : decode b_C_finish 27 = .ok (.dup, 1) := by decide +kernel
theorem d_C_finish_28 : decode b_C_finish 28 = .ok (.ldc 144, 2) := by decide +kernel
theorem d_C_finish_30 : decode b_C_finish 30 = .ok (.invokespecial 52, 3) := by decide +kernel
theorem d_C_finish_33 : decode b_C_finish 33 = .ok (.athrow, 1) := by decide +kernel
theorem d_C_finish_34 : decode b_C_finish 34 = .ok (.aload_n 0, 1) := by decide +kernel
theorem d_C_finish_35 : decode b_C_finish 35 = .ok (.getfield 11, 3) := by decide +kernel
theorem d_C_finish_38 : decode b_C_finish 38 = .ok (.aload_n 0, 1) := by decide +kernel
theorem d_C_finish_39 : decode b_C_finish 39 = .ok (.getfield 39, 3) := by decide +kernel
theorem d_C_finish_42 : decode b_C_finish 42 = .ok (.aaload, 1) := by decide +kernel
theorem d_C_finish_43 : decode b_C_finish 43 = .ok (.astore_n 1, 1) := by decide +kernel
theorem d_C_finish_44 : decode b_C_finish 44 = .ok (.aload_n 1, 1) := by decide +kernel
theorem d_C_finish_45 : decode b_C_finish 45 = .ok (.iconst 0, 1) := by decide +kernel
theorem d_C_finish_46 : decode b_C_finish 46 = .ok (.putfield 146, 3) := by decide +kernel
theorem d_C_finish_49 : decode b_C_finish 49 = .ok (.aload_n 0, 1) := by decide +kernel
theorem d_C_finish_50 : decode b_C_finish 50 = .ok (.iconst 4, 1) := by decide +kernel
theorem d_C_finish_51 : decode b_C_finish 51 = .ok (.aload_n 0, 1) := by decide +kernel
theorem d_C_finish_52 : decode b_C_finish 52 = .ok (.getfield 39, 3) := by decide +kernel
theorem d_C_finish_55 : decode b_C_finish 55 = .ok (.bipush 15, 2) := by decide +kernel
theorem d_C_finish_57 : decode b_C_finish 57 = .ok (.invokevirtual 105, 3) := by decide +kernel
theorem d_C_finish_60 : decode b_C_finish 60 = .ok (.aload_n 1, 1) := by decide +kernel
theorem d_C_finish_61 : decode b_C_finish 61 = .ok (.getfield 149, 3) := by decide +kernel
theorem d_C_finish_64 : decode b_C_finish 64 = .ok (.ireturn, 1) := by decide +kernel
theorem d_C_pass_0 : decode b_C_pass 0 = .ok (.iload_n 1, 1) := by decide +kernel
theorem d_C_pass_1 : decode b_C_pass 1 = .ok (.iconst 0, 1) := by decide +kernel
theorem d_C_pass_2 : decode b_C_pass 2 = .ok (.bipush 100, 2) := by decide +kernel
theorem d_C_pass_4 : decode b_C_pass 4 = .ok (.invokestatic 55, 3) := by decide +kernel
theorem d_C_pass_7 : decode b_C_pass 7 = .ok (.ifCond .ne 13, 3) := by decide +kernel
theorem d_C_pass_10 : decode b_C_pass 10 = .ok (.new 59, 3) := by decide +kernel
theorem d_C_pass_13 : decode b_C_pass 13 = .ok (.dup, 1) := by decide +kernel
theorem d_C_pass_14 : decode b_C_pass 14 = .ok (.ldc 152, 2) := by decide +kernel
theorem d_C_pass_16 : decode b_C_pass 16 = .ok (.invokespecial 63, 3) := by decide +kernel
theorem d_C_pass_19 : decode b_C_pass 19 = .ok (.athrow, 1) := by decide +kernel
theorem d_C_pass_20 : decode b_C_pass 20 = .ok (.aload_n 0, 1) := by decide +kernel
theorem d_C_pass_21 : decode b_C_pass 21 = .ok (.dup, 1) := by decide +kernel
theorem d_C_pass_22 : decode b_C_pass 22 = .ok (.getfield 32, 3) := by decide +kernel
theorem d_C_pass_25 : decode b_C_pass 25 = .ok (.iload_n 1, 1) := by decide +kernel
theorem d_C_pass_26 : decode b_C_pass 26 = .ok (.iadd, 1) := by decide +kernel
theorem d_C_pass_27 : decode b_C_pass 27 = .ok (.putfield 32, 3) := by decide +kernel
theorem d_C_pass_30 : decode b_C_pass 30 = .ok (.aload_n 0, 1) := by decide +kernel
theorem d_C_pass_31 : decode b_C_pass 31 = .ok (.getfield 39, 3) := by decide +kernel
theorem d_C_pass_34 : decode b_C_pass 34 = .ok (.iconst (-1), 1) := by decide +kernel
theorem d_C_pass_35 : decode b_C_pass 35 = .ok (.if_icmp .eq 38, 3) := by decide +kernel
theorem d_C_pass_38 : decode b_C_pass 38 = .ok (.aload_n 0, 1) := by decide +kernel
theorem d_C_pass_39 : decode b_C_pass 39 = .ok (.getfield 11, 3) := by decide +kernel
theorem d_C_pass_42 : decode b_C_pass 42 = .ok (.aload_n 0, 1) := by decide +kernel
theorem d_C_pass_43 : decode b_C_pass 43 = .ok (.getfield 39, 3) := by decide +kernel
theorem d_C_pass_46 : decode b_C_pass 46 = .ok (.aaload, 1) := by decide +kernel
theorem d_C_pass_47 : decode b_C_pass 47 = .ok (.dup, 1) := by decide +kernel
theorem d_C_pass_48 : decode b_C_pass 48 = .ok (.getfield 149, 3) := by decide +kernel
theorem d_C_pass_51 : decode b_C_pass 51 = .ok (.iload_n 1, 1) := by decide +kernel
theorem d_C_pass_52 : decode b_C_pass 52 = .ok (.iadd, 1) := by decide +kernel
theorem d_C_pass_53 : decode b_C_pass 53 = .ok (.putfield 149, 3) := by decide +kernel
theorem d_C_pass_56 : decode b_C_pass 56 = .ok (.aload_n 0, 1) := by decide +kernel
theorem d_C_pass_57 : decode b_C_pass 57 = .ok (.aload_n 0, 1) := by decide +kernel
theorem d_C_pass_58 : decode b_C_pass 58 = .ok (.getfield 11, 3) := by decide +kernel
theorem d_C_pass_61 : decode b_C_pass 61 = .ok (.aload_n 0, 1) := by decide +kernel
theorem d_C_pass_62 : decode b_C_pass 62 = .ok (.getfield 39, 3) := by decide +kernel
theorem d_C_pass_65 : decode b_C_pass 65 = .ok (.aaload, 1) := by decide +kernel
theorem d_C_pass_66 : decode b_C_pass 66 = .ok (.getfield 64, 3) := by decide +kernel
theorem d_C_pass_69 : decode b_C_pass 69 = .ok (.iload_n 1, 1) := by decide +kernel
theorem d_C_pass_70 : decode b_C_pass 70 = .ok (.invokevirtual 154, 3) := by decide +kernel
theorem d_C_pass_73 : decode b_C_pass 73 = .ok (.aload_n 0, 1) := by decide +kernel
theorem d_C_pass_74 : decode b_C_pass 74 = .ok (.getfield 32, 3) := by decide +kernel
theorem d_C_pass_77 : decode b_C_pass 77 = .ok (.ireturn, 1) := by decide +kernel
theorem d_C_running_0 : decode b_C_running 0 = .ok (.aload_n 0, 1) := by decide +kernel
theorem d_C_running_1 : decode b_C_running 1 = .ok (.getfield 39, 3) := by decide +kernel
theorem d_C_running_4 : decode b_C_running 4 = .ok (.ireturn, 1) := by decide +kernel
theorem d_C_priority_0 : decode b_C_priority 0 = .ok (.aload_n 0, 1) := by decide +kernel
theorem d_C_priority_1 : decode b_C_priority 1 = .ok (.iload_n 1, 1) := by decide +kernel
theorem d_C_priority_2 : decode b_C_priority 2 = .ok (.invokevirtual 44, 3) := by decide +kernel
theorem d_C_priority_5 : decode b_C_priority 5 = .ok (.ifCond .ne 5, 3) := by decide +kernel
theorem d_C_priority_8 : decode b_C_priority 8 = .ok (.iconst (-1), 1) := by decide +kernel
theorem d_C_priority_9 : decode b_C_priority 9 = .ok (.ireturn, 1) := by decide +kernel
theorem d_C_priority_10 : decode b_C_priority 10 = .ok (.aload_n 0, 1) := by decide +kernel
theorem d_C_priority_11 : decode b_C_priority 11 = .ok (.getfield 11, 3) := by decide +kernel
theorem d_C_priority_14 : decode b_C_priority 14 = .ok (.iload_n 1, 1) := by decide +kernel
theorem d_C_priority_15 : decode b_C_priority 15 = .ok (.aaload, 1) := by decide +kernel
theorem d_C_priority_16 : decode b_C_priority 16 = .ok (.getfield 146, 3) := by decide +kernel
theorem d_C_priority_19 : decode b_C_priority 19 = .ok (.ifCond .eq 15, 3) := by decide +kernel
theorem d_C_priority_22 : decode b_C_priority 22 = .ok (.aload_n 0, 1) := by decide +kernel
theorem d_C_priority_23 : decode b_C_priority 23 = .ok (.getfield 11, 3) := by decide +kernel
theorem d_C_priority_26 : decode b_C_priority 26 = .ok (.iload_n 1, 1) := by decide +kernel
theorem d_C_priority_27 : decode b_C_priority 27 = .ok (.aaload, 1) := by decide +kernel
theorem d_C_priority_28 : decode b_C_priority 28 = .ok (.getfield 128, 3) := by decide +kernel
theorem d_C_priority_31 : decode b_C_priority 31 = .ok (.goto 12, 3) := by decide +kernel
theorem d_C_priority_34 : decode b_C_priority 34 = .ok (.aload_n 0, 1) := by decide +kernel
theorem d_C_priority_35 : decode b_C_priority 35 = .ok (.getfield 11, 3) := by decide +kernel
theorem d_C_priority_38 : decode b_C_priority 38 = .ok (.iload_n 1, 1) := by decide +kernel
theorem d_C_priority_39 : decode b_C_priority 39 = .ok (.aaload, 1) := by decide +kernel
theorem d_C_priority_40 : decode b_C_priority 40 = .ok (.getfield 64, 3) := by decide +kernel
theorem d_C_priority_43 : decode b_C_priority 43 = .ok (.ireturn, 1) := by decide +kernel
theorem d_C_place_0 : decode b_C_place 0 = .ok (.aload_n 0, 1) := by decide +kernel
theorem d_C_place_1 : decode b_C_place 1 = .ok (.iload_n 1, 1) := by decide +kernel
theorem d_C_place_2 : decode b_C_place 2 = .ok (.invokevirtual 94, 3) := by decide +kernel
theorem d_C_place_5 : decode b_C_place 5 = .ok (.ifCond .ne 5, 3) := by decide +kernel
theorem d_C_place_8 : decode b_C_place 8 = .ok (.iconst (-1), 1) := by decide +kernel
theorem d_C_place_9 : decode b_C_place 9 = .ok (.ireturn, 1) := by decide +kernel
theorem d_C_place_10 : decode b_C_place 10 = .ok (.iconst 0, 1) := by decide +kernel
theorem d_C_place_11 : decode b_C_place 11 = .ok (.istore_n 2, 1) := by decide +kernel
theorem d_C_place_12 : decode b_C_place 12 = .ok (.iconst 0, 1) := by decide +kernel
theorem d_C_place_13 : decode b_C_place 13 = .ok (.istore_n 3, 1) := by decide +kernel
theorem d_C_place_14 : decode b_C_place 14 = .ok (.iload_n 3, 1) := by decide +kernel
theorem d_C_place_15 : decode b_C_place 15 = .ok (.bipush 8, 2) := by decide +kernel
theorem d_C_place_17 : decode b_C_place 17 = .ok (.if_icmp .ge 42, 3) := by decide +kernel
theorem d_C_place_20 : decode b_C_place 20 = .ok (.aload_n 0, 1) := by decide +kernel
theorem d_C_place_21 : decode b_C_place 21 = .ok (.getfield 11, 3) := by decide +kernel
theorem d_C_place_24 : decode b_C_place 24 = .ok (.iload_n 3, 1) := by decide +kernel
theorem d_C_place_25 : decode b_C_place 25 = .ok (.aaload, 1) := by decide +kernel
theorem d_C_place_26 : decode b_C_place 26 = .ok (.getfield 146, 3) := by decide +kernel
theorem d_C_place_29 : decode b_C_place 29 = .ok (.ifCond .eq 24, 3) := by decide +kernel
theorem d_C_place_32 : decode b_C_place 32 = .ok (.aload_n 0, 1) := by decide +kernel
theorem d_C_place_33 : decode b_C_place 33 = .ok (.getfield 11, 3) := by decide +kernel
theorem d_C_place_36 : decode b_C_place 36 = .ok (.iload_n 3, 1) := by decide +kernel
theorem d_C_place_37 : decode b_C_place 37 = .ok (.aaload, 1) := by decide +kernel
theorem d_C_place_38 : decode b_C_place 38 = .ok (.aload_n 0, 1) := by decide +kernel
theorem d_C_place_39 : decode b_C_place 39 = .ok (.getfield 11, 3) := by decide +kernel
theorem d_C_place_42 : decode b_C_place 42 = .ok (.iload_n 1, 1) := by decide +kernel
theorem d_C_place_43 : decode b_C_place 43 = .ok (.aaload, 1) := by decide +kernel
theorem d_C_place_44 : decode b_C_place 44 = .ok (.invokevirtual 158, 3) := by decide +kernel
theorem d_C_place_47 : decode b_C_place 47 = .ok (.ifCond .eq 6, 3) := by decide +kernel
theorem d_C_place_50 : decode b_C_place 50 = .ok (.iinc 2 1, 3) := by decide +kernel
theorem d_C_place_53 : decode b_C_place 53 = .ok (.iinc 3 1, 3) := by decide +kernel
theorem d_C_place_56 : decode b_C_place 56 = .ok (.goto (-42), 3) := by decide +kernel
theorem d_C_place_59 : decode b_C_place 59 = .ok (.iload_n 2, 1) := by decide +kernel
theorem d_C_place_60 : decode b_C_place 60 = .ok (.ireturn, 1) := by decide +kernel
theorem d_C_ceiling_0 : decode b_C_ceiling 0 = .ok (.aload_n 0, 1) := by decide +kernel
theorem d_C_ceiling_1 : decode b_C_ceiling 1 = .ok (.getfield 28, 3) := by decide +kernel
theorem d_C_ceiling_4 : decode b_C_ceiling 4 = .ok (.ifCond .eq 22, 3) := by decide +kernel
theorem d_C_ceiling_7 : decode b_C_ceiling 7 = .ok (.iload_n 1, 1) := by decide +kernel
theorem d_C_ceiling_8 : decode b_C_ceiling 8 = .ok (.invokestatic 74, 3) := by decide +kernel
theorem d_C_ceiling_11 : decode b_C_ceiling 11 = .ok (.ifCond .eq 15, 3) := by decide +kernel
theorem d_C_ceiling_14 : decode b_C_ceiling 14 = .ok (.aload_n 0, 1) := by decide +kernel
theorem d_C_ceiling_15 : decode b_C_ceiling 15 = .ok (.getfield 17, 3) := by decide +kernel
theorem d_C_ceiling_18 : decode b_C_ceiling 18 = .ok (.iload_n 1, 1) := by decide +kernel
theorem d_C_ceiling_19 : decode b_C_ceiling 19 = .ok (.aaload, 1) := by decide +kernel
theorem d_C_ceiling_20 : decode b_C_ceiling 20 = .ok (.getfield 87, 3) := by decide +kernel
theorem d_C_ceiling_23 : decode b_C_ceiling 23 = .ok (.goto 4, 3) := by decide +kernel
theorem d_C_ceiling_26 : decode b_C_ceiling 26 = .ok (.iconst (-1), 1) := by decide +kernel
theorem d_C_ceiling_27 : decode b_C_ceiling 27 = .ok (.ireturn, 1) := by decide +kernel
theorem d_C_holder_0 : decode b_C_holder 0 = .ok (.iload_n 1, 1) := by decide +kernel
theorem d_C_holder_1 : decode b_C_holder 1 = .ok (.invokestatic 74, 3) := by decide +kernel
theorem d_C_holder_4 : decode b_C_holder 4 = .ok (.ifCond .eq 15, 3) := by decide +kernel
theorem d_C_holder_7 : decode b_C_holder 7 = .ok (.aload_n 0, 1) := by decide +kernel
theorem d_C_holder_8 : decode b_C_holder 8 = .ok (.getfield 17, 3) := by decide +kernel
theorem d_C_holder_11 : decode b_C_holder 11 = .ok (.iload_n 1, 1) := by decide +kernel
theorem d_C_holder_12 : decode b_C_holder 12 = .ok (.aaload, 1) := by decide +kernel
theorem d_C_holder_13 : decode b_C_holder 13 = .ok (.getfield 119, 3) := by decide +kernel
theorem d_C_holder_16 : decode b_C_holder 16 = .ok (.goto 4, 3) := by decide +kernel
theorem d_C_holder_19 : decode b_C_holder 19 = .ok (.iconst (-1), 1) := by decide +kernel
theorem d_C_holder_20 : decode b_C_holder 20 = .ok (.ireturn, 1) := by decide +kernel
theorem d_C_spent_0 : decode b_C_spent 0 = .ok (.aload_n 0, 1) := by decide +kernel
theorem d_C_spent_1 : decode b_C_spent 1 = .ok (.iload_n 1, 1) := by decide +kernel
theorem d_C_spent_2 : decode b_C_spent 2 = .ok (.invokevirtual 44, 3) := by decide +kernel
theorem d_C_spent_5 : decode b_C_spent 5 = .ok (.ifCond .ne 5, 3) := by decide +kernel
theorem d_C_spent_8 : decode b_C_spent 8 = .ok (.iconst 0, 1) := by decide +kernel
theorem d_C_spent_9 : decode b_C_spent 9 = .ok (.ireturn, 1) := by decide +kernel
theorem d_C_spent_10 : decode b_C_spent 10 = .ok (.iload_n 2, 1) := by decide +kernel
theorem d_C_spent_11 : decode b_C_spent 11 = .ok (.ifCond .ne 13, 3) := by decide +kernel
theorem d_C_spent_14 : decode b_C_spent 14 = .ok (.aload_n 0, 1) := by decide +kernel
theorem d_C_spent_15 : decode b_C_spent 15 = .ok (.getfield 11, 3) := by decide +kernel
theorem d_C_spent_18 : decode b_C_spent 18 = .ok (.iload_n 1, 1) := by decide +kernel
theorem d_C_spent_19 : decode b_C_spent 19 = .ok (.aaload, 1) := by decide +kernel
theorem d_C_spent_20 : decode b_C_spent 20 = .ok (.getfield 149, 3) := by decide +kernel
theorem d_C_spent_23 : decode b_C_spent 23 = .ok (.ireturn, 1) := by decide +kernel
theorem d_C_spent_24 : decode b_C_spent 24 = .ok (.iload_n 2, 1) := by decide +kernel
theorem d_C_spent_25 : decode b_C_spent 25 = .ok (.iconst 1, 1) := by decide +kernel
theorem d_C_spent_26 : decode b_C_spent 26 = .ok (.if_icmp .ne 15, 3) := by decide +kernel
theorem d_C_spent_29 : decode b_C_spent 29 = .ok (.aload_n 0, 1) := by decide +kernel
theorem d_C_spent_30 : decode b_C_spent 30 = .ok (.getfield 11, 3) := by decide +kernel
theorem d_C_spent_33 : decode b_C_spent 33 = .ok (.iload_n 1, 1) := by decide +kernel
theorem d_C_spent_34 : decode b_C_spent 34 = .ok (.aaload, 1) := by decide +kernel
theorem d_C_spent_35 : decode b_C_spent 35 = .ok (.getfield 162, 3) := by decide +kernel
theorem d_C_spent_38 : decode b_C_spent 38 = .ok (.goto 4, 3) := by decide +kernel
theorem d_C_spent_41 : decode b_C_spent 41 = .ok (.iconst 0, 1) := by decide +kernel
theorem d_C_spent_42 : decode b_C_spent 42 = .ok (.ireturn, 1) := by decide +kernel
theorem d_C_blocking_0 : decode b_C_blocking 0 = .ok (.aload_n 0, 1) := by decide +kernel
theorem d_C_blocking_1 : decode b_C_blocking 1 = .ok (.getfield 28, 3) := by decide +kernel
theorem d_C_blocking_4 : decode b_C_blocking 4 = .ok (.ifCond .eq 27, 3) := by decide +kernel
theorem d_C_blocking_7 : decode b_C_blocking 7 = .ok (.aload_n 0, 1) := by decide +kernel
theorem d_C_blocking_8 : decode b_C_blocking 8 = .ok (.iload_n 1, 1) := by decide +kernel
theorem d_C_blocking_9 : decode b_C_blocking 9 = .ok (.invokevirtual 44, 3) := by decide +kernel
theorem d_C_blocking_12 : decode b_C_blocking 12 = .ok (.ifCond .eq 19, 3) := by decide +kernel
theorem d_C_blocking_15 : decode b_C_blocking 15 = .ok (.aload_n 0, 1) := by decide +kernel
theorem d_C_blocking_16 : decode b_C_blocking 16 = .ok (.aload_n 0, 1) := by decide +kernel
theorem d_C_blocking_17 : decode b_C_blocking 17 = .ok (.getfield 11, 3) := by decide +kernel
theorem d_C_blocking_20 : decode b_C_blocking 20 = .ok (.iload_n 1, 1) := by decide +kernel
theorem d_C_blocking_21 : decode b_C_blocking 21 = .ok (.aaload, 1) := by decide +kernel
theorem d_C_blocking_22 : decode b_C_blocking 22 = .ok (.getfield 64, 3) := by decide +kernel
theorem d_C_blocking_25 : decode b_C_blocking 25 = .ok (.invokevirtual 165, 3) := by decide +kernel
theorem d_C_blocking_28 : decode b_C_blocking 28 = .ok (.goto 4, 3) := by decide +kernel
theorem d_C_blocking_31 : decode b_C_blocking 31 = .ok (.iconst (-1), 1) := by decide +kernel
theorem d_C_blocking_32 : decode b_C_blocking 32 = .ok (.ireturn, 1) := by decide +kernel
theorem d_C_response_0 : decode b_C_response 0 = .ok (.aload_n 0, 1) := by decide +kernel
theorem d_C_response_1 : decode b_C_response 1 = .ok (.getfield 28, 3) := by decide +kernel
theorem d_C_response_4 : decode b_C_response 4 = .ok (.ifCond .eq 11, 3) := by decide +kernel
theorem d_C_response_7 : decode b_C_response 7 = .ok (.aload_n 0, 1) := by decide +kernel
theorem d_C_response_8 : decode b_C_response 8 = .ok (.iload_n 1, 1) := by decide +kernel
theorem d_C_response_9 : decode b_C_response 9 = .ok (.invokevirtual 44, 3) := by decide +kernel
theorem d_C_response_12 : decode b_C_response 12 = .ok (.ifCond .ne 5, 3) := by decide +kernel
theorem d_C_response_15 : decode b_C_response 15 = .ok (.iconst (-1), 1) := by decide +kernel
theorem d_C_response_16 : decode b_C_response 16 = .ok (.ireturn, 1) := by decide +kernel
theorem d_C_response_17 : decode b_C_response 17 = .ok (.aload_n 0, 1) := by decide +kernel
theorem d_C_response_18 : decode b_C_response 18 = .ok (.getfield 11, 3) := by decide +kernel
theorem d_C_response_21 : decode b_C_response 21 = .ok (.iload_n 1, 1) := by decide +kernel
theorem d_C_response_22 : decode b_C_response 22 = .ok (.aaload, 1) := by decide +kernel
theorem d_C_response_23 : decode b_C_response 23 = .ok (.getfield 67, 3) := by decide +kernel
theorem d_C_response_26 : decode b_C_response 26 = .ok (.aload_n 0, 1) := by decide +kernel
theorem d_C_response_27 : decode b_C_response 27 = .ok (.aload_n 0, 1) := by decide +kernel
theorem d_C_response_28 : decode b_C_response 28 = .ok (.getfield 11, 3) := by decide +kernel
theorem d_C_response_31 : decode b_C_response 31 = .ok (.iload_n 1, 1) := by decide +kernel
theorem d_C_response_32 : decode b_C_response 32 = .ok (.aaload, 1) := by decide +kernel
theorem d_C_response_33 : decode b_C_response 33 = .ok (.getfield 64, 3) := by decide +kernel
theorem d_C_response_36 : decode b_C_response 36 = .ok (.invokevirtual 165, 3) := by decide +kernel
theorem d_C_response_39 : decode b_C_response 39 = .ok (.iadd, 1) := by decide +kernel
theorem d_C_response_40 : decode b_C_response 40 = .ok (.istore_n 2, 1) := by decide +kernel
theorem d_C_response_41 : decode b_C_response 41 = .ok (.iconst 1, 1) := by decide +kernel
theorem d_C_response_42 : decode b_C_response 42 = .ok (.istore_n 3, 1) := by decide +kernel
theorem d_C_response_43 : decode b_C_response 43 = .ok (.iload_n 3, 1) := by decide +kernel
theorem d_C_response_44 : decode b_C_response 44 = .ok (.aload_n 0, 1) := by decide +kernel
theorem d_C_response_45 : decode b_C_response 45 = .ok (.getfield 11, 3) := by decide +kernel
theorem d_C_response_48 : decode b_C_response 48 = .ok (.iload_n 1, 1) := by decide +kernel
theorem d_C_response_49 : decode b_C_response 49 = .ok (.aaload, 1) := by decide +kernel
theorem d_C_response_50 : decode b_C_response 50 = .ok (.getfield 70, 3) := by decide +kernel
theorem d_C_response_53 : decode b_C_response 53 = .ok (.if_icmp .gt 23, 3) := by decide +kernel
theorem d_C_response_56 : decode b_C_response 56 = .ok (.iload_n 2, 1) := by decide +kernel
theorem d_C_response_57 : decode b_C_response 57 = .ok (.aload_n 0, 1) := by decide +kernel
theorem d_C_response_58 : decode b_C_response 58 = .ok (.iload_n 1, 1) := by decide +kernel
theorem d_C_response_59 : decode b_C_response 59 = .ok (.iload_n 3, 1) := by decide +kernel
theorem d_C_response_60 : decode b_C_response 60 = .ok (.invokevirtual 168, 3) := by decide +kernel
theorem d_C_response_63 : decode b_C_response 63 = .ok (.iadd, 1) := by decide +kernel
theorem d_C_response_64 : decode b_C_response 64 = .ok (.iload_n 3, 1) := by decide +kernel
theorem d_C_response_65 : decode b_C_response 65 = .ok (.if_icmp .ne 5, 3) := by decide +kernel
theorem d_C_response_68 : decode b_C_response 68 = .ok (.iload_n 3, 1) := by decide +kernel
theorem d_C_response_69 : decode b_C_response 69 = .ok (.ireturn, 1) := by decide +kernel
theorem d_C_response_70 : decode b_C_response 70 = .ok (.iinc 3 1, 3) := by decide +kernel
theorem d_C_response_73 : decode b_C_response 73 = .ok (.goto (-30), 3) := by decide +kernel
theorem d_C_response_76 : decode b_C_response 76 = .ok (.iconst (-1), 1) := by decide +kernel
theorem d_C_response_77 : decode b_C_response 77 = .ok (.ireturn, 1) := by decide +kernel
theorem d_C_notes_0 : decode b_C_notes 0 = .ok (.aload_n 0, 1) := by decide +kernel
theorem d_C_notes_1 : decode b_C_notes 1 = .ok (.getfield 24, 3) := by decide +kernel
theorem d_C_notes_4 : decode b_C_notes 4 = .ok (.getfield 171, 3) := by decide +kernel
theorem d_C_notes_7 : decode b_C_notes 7 = .ok (.ireturn, 1) := by decide +kernel
theorem d_C_note_0 : decode b_C_note 0 = .ok (.aload_n 0, 1) := by decide +kernel
theorem d_C_note_1 : decode b_C_note 1 = .ok (.getfield 24, 3) := by decide +kernel
theorem d_C_note_4 : decode b_C_note 4 = .ok (.iload_n 1, 1) := by decide +kernel
theorem d_C_note_5 : decode b_C_note 5 = .ok (.invokevirtual 174, 3) := by decide +kernel
theorem d_C_note_8 : decode b_C_note 8 = .ok (.ireturn, 1) := by decide +kernel
theorem d_C_isIn_0 : decode b_C_isIn 0 = .ok (.iload_n 0, 1) := by decide +kernel
theorem d_C_isIn_1 : decode b_C_isIn 1 = .ok (.iload_n 1, 1) := by decide +kernel
theorem d_C_isIn_2 : decode b_C_isIn 2 = .ok (.if_icmp .lt 12, 3) := by decide +kernel
theorem d_C_isIn_5 : decode b_C_isIn 5 = .ok (.iload_n 0, 1) := by decide +kernel
theorem d_C_isIn_6 : decode b_C_isIn 6 = .ok (.iload_n 2, 1) := by decide +kernel
theorem d_C_isIn_7 : decode b_C_isIn 7 = .ok (.if_icmp .gt 7, 3) := by decide +kernel
theorem d_C_isIn_10 : decode b_C_isIn 10 = .ok (.iconst 1, 1) := by decide +kernel
theorem d_C_isIn_11 : decode b_C_isIn 11 = .ok (.goto 4, 3) := by decide +kernel
theorem d_C_isIn_14 : decode b_C_isIn 14 = .ok (.iconst 0, 1) := by decide +kernel
theorem d_C_isIn_15 : decode b_C_isIn 15 = .ok (.ireturn, 1) := by decide +kernel
theorem d_C_isThing_0 : decode b_C_isThing 0 = .ok (.iload_n 0, 1) := by decide +kernel
theorem d_C_isThing_1 : decode b_C_isThing 1 = .ok (.iconst 0, 1) := by decide +kernel
theorem d_C_isThing_2 : decode b_C_isThing 2 = .ok (.iconst 5, 1) := by decide +kernel
theorem d_C_isThing_3 : decode b_C_isThing 3 = .ok (.invokestatic 55, 3) := by decide +kernel
theorem d_C_isThing_6 : decode b_C_isThing 6 = .ok (.ireturn, 1) := by decide +kernel
theorem d_C_isDeclared_0 : decode b_C_isDeclared 0 = .ok (.iload_n 1, 1) := by decide +kernel
theorem d_C_isDeclared_1 : decode b_C_isDeclared 1 = .ok (.iconst 0, 1) := by decide +kernel
theorem d_C_isDeclared_2 : decode b_C_isDeclared 2 = .ok (.bipush 7, 2) := by decide +kernel
theorem d_C_isDeclared_4 : decode b_C_isDeclared 4 = .ok (.invokestatic 55, 3) := by decide +kernel
theorem d_C_isDeclared_7 : decode b_C_isDeclared 7 = .ok (.ifCond .eq 19, 3) := by decide +kernel
theorem d_C_isDeclared_10 : decode b_C_isDeclared 10 = .ok (.aload_n 0, 1) := by decide +kernel
theorem d_C_isDeclared_11 : decode b_C_isDeclared 11 = .ok (.getfield 11, 3) := by decide +kernel
theorem d_C_isDeclared_14 : decode b_C_isDeclared 14 = .ok (.iload_n 1, 1) := by decide +kernel
theorem d_C_isDeclared_15 : decode b_C_isDeclared 15 = .ok (.aaload, 1) := by decide +kernel
theorem d_C_isDeclared_16 : decode b_C_isDeclared 16 = .ok (.invokevirtual 177, 3) := by decide +kernel
theorem d_C_isDeclared_19 : decode b_C_isDeclared 19 = .ok (.ifCond .eq 7, 3) := by decide +kernel
theorem d_C_isDeclared_22 : decode b_C_isDeclared 22 = .ok (.iconst 1, 1) := by decide +kernel
theorem d_C_isDeclared_23 : decode b_C_isDeclared 23 = .ok (.goto 4, 3) := by decide +kernel
theorem d_C_isDeclared_26 : decode b_C_isDeclared 26 = .ok (.iconst 0, 1) := by decide +kernel
theorem d_C_isDeclared_27 : decode b_C_isDeclared 27 = .ok (.ireturn, 1) := by decide +kernel
theorem d_C_isReady_0 : decode b_C_isReady 0 = .ok (.iload_n 1, 1) := by decide +kernel
theorem d_C_isReady_1 : decode b_C_isReady 1 = .ok (.iconst 0, 1) := by decide +kernel
theorem d_C_isReady_2 : decode b_C_isReady 2 = .ok (.bipush 7, 2) := by decide +kernel
theorem d_C_isReady_4 : decode b_C_isReady 4 = .ok (.invokestatic 55, 3) := by decide +kernel
theorem d_C_isReady_7 : decode b_C_isReady 7 = .ok (.ifCond .eq 19, 3) := by decide +kernel
theorem d_C_isReady_10 : decode b_C_isReady 10 = .ok (.aload_n 0, 1) := by decide +kernel
theorem d_C_isReady_11 : decode b_C_isReady 11 = .ok (.getfield 11, 3) := by decide +kernel
theorem d_C_isReady_14 : decode b_C_isReady 14 = .ok (.iload_n 1, 1) := by decide +kernel
theorem d_C_isReady_15 : decode b_C_isReady 15 = .ok (.aaload, 1) := by decide +kernel
theorem d_C_isReady_16 : decode b_C_isReady 16 = .ok (.getfield 146, 3) := by decide +kernel
theorem d_C_isReady_19 : decode b_C_isReady 19 = .ok (.ifCond .eq 7, 3) := by decide +kernel
theorem d_C_isReady_22 : decode b_C_isReady 22 = .ok (.iconst 1, 1) := by decide +kernel
theorem d_C_isReady_23 : decode b_C_isReady 23 = .ok (.goto 4, 3) := by decide +kernel
theorem d_C_isReady_26 : decode b_C_isReady 26 = .ok (.iconst 0, 1) := by decide +kernel
theorem d_C_isReady_27 : decode b_C_isReady 27 = .ok (.ireturn, 1) := by decide +kernel
theorem d_C_isHeld_0 : decode b_C_isHeld 0 = .ok (.iload_n 1, 1) := by decide +kernel
theorem d_C_isHeld_1 : decode b_C_isHeld 1 = .ok (.invokestatic 74, 3) := by decide +kernel
theorem d_C_isHeld_4 : decode b_C_isHeld 4 = .ok (.ifCond .eq 20, 3) := by decide +kernel
theorem d_C_isHeld_7 : decode b_C_isHeld 7 = .ok (.aload_n 0, 1) := by decide +kernel
theorem d_C_isHeld_8 : decode b_C_isHeld 8 = .ok (.getfield 17, 3) := by decide +kernel
theorem d_C_isHeld_11 : decode b_C_isHeld 11 = .ok (.iload_n 1, 1) := by decide +kernel
theorem d_C_isHeld_12 : decode b_C_isHeld 12 = .ok (.aaload, 1) := by decide +kernel
theorem d_C_isHeld_13 : decode b_C_isHeld 13 = .ok (.getfield 119, 3) := by decide +kernel
theorem d_C_isHeld_16 : decode b_C_isHeld 16 = .ok (.iconst (-1), 1) := by decide +kernel
theorem d_C_isHeld_17 : decode b_C_isHeld 17 = .ok (.if_icmp .eq 7, 3) := by decide +kernel
theorem d_C_isHeld_20 : decode b_C_isHeld 20 = .ok (.iconst 1, 1) := by decide +kernel
theorem d_C_isHeld_21 : decode b_C_isHeld 21 = .ok (.goto 4, 3) := by decide +kernel
theorem d_C_isHeld_24 : decode b_C_isHeld 24 = .ok (.iconst 0, 1) := by decide +kernel
theorem d_C_isHeld_25 : decode b_C_isHeld 25 = .ok (.ireturn, 1) := by decide +kernel
theorem d_C_countDeclared_0 : decode b_C_countDeclared 0 = .ok (.iconst 0, 1) := by decide +kernel
theorem d_C_countDeclared_1 : decode b_C_countDeclared 1 = .ok (.istore_n 1, 1) := by decide +kernel
theorem d_C_countDeclared_2 : decode b_C_countDeclared 2 = .ok (.iconst 0, 1) := by decide +kernel
theorem d_C_countDeclared_3 : decode b_C_countDeclared 3 = .ok (.istore_n 2, 1) := by decide +kernel
theorem d_C_countDeclared_4 : decode b_C_countDeclared 4 = .ok (.iload_n 2, 1) := by decide +kernel
theorem d_C_countDeclared_5 : decode b_C_countDeclared 5 = .ok (.bipush 8, 2) := by decide +kernel
theorem d_C_countDeclared_7 : decode b_C_countDeclared 7 = .ok (.if_icmp .ge 24, 3) := by decide +kernel
theorem d_C_countDeclared_10 : decode b_C_countDeclared 10 = .ok (.aload_n 0, 1) := by decide +kernel
theorem d_C_countDeclared_11 : decode b_C_countDeclared 11 = .ok (.getfield 11, 3) := by decide +kernel
theorem d_C_countDeclared_14 : decode b_C_countDeclared 14 = .ok (.iload_n 2, 1) := by decide +kernel
theorem d_C_countDeclared_15 : decode b_C_countDeclared 15 = .ok (.aaload, 1) := by decide +kernel
theorem d_C_countDeclared_16 : decode b_C_countDeclared 16 = .ok (.invokevirtual 177, 3) := by decide +kernel
theorem d_C_countDeclared_19 : decode b_C_countDeclared 19 = .ok (.ifCond .eq 6, 3) := by decide +kernel
theorem d_C_countDeclared_22 : decode b_C_countDeclared 22 = .ok (.iinc 1 1, 3) := by decide +kernel
theorem d_C_countDeclared_25 : decode b_C_countDeclared 25 = .ok (.iinc 2 1, 3) := by decide +kernel
theorem d_C_countDeclared_28 : decode b_C_countDeclared 28 = .ok (.goto (-24), 3) := by decide +kernel
theorem d_C_countDeclared_31 : decode b_C_countDeclared 31 = .ok (.iload_n 1, 1) := by decide +kernel
theorem d_C_countDeclared_32 : decode b_C_countDeclared 32 = .ok (.ireturn, 1) := by decide +kernel
theorem d_C_greatestBaseOfUsers_0 : decode b_C_greatestBaseOfUsers 0 = .ok (.iconst 0, 1) := by decide +kernel
theorem d_C_greatestBaseOfUsers_1 : decode b_C_greatestBaseOfUsers 1 = .ok (.istore_n 2, 1) := by decide +kernel
theorem d_C_greatestBaseOfUsers_2 : decode b_C_greatestBaseOfUsers 2 = .ok (.iconst 0, 1) := by decide +kernel
theorem d_C_greatestBaseOfUsers_3 : decode b_C_greatestBaseOfUsers 3 = .ok (.istore_n 3, 1) := by decide +kernel
theorem d_C_greatestBaseOfUsers_4 : decode b_C_greatestBaseOfUsers 4 = .ok (.iload_n 3, 1) := by decide +kernel
theorem d_C_greatestBaseOfUsers_5 : decode b_C_greatestBaseOfUsers 5 = .ok (.bipush 8, 2) := by decide +kernel
theorem d_C_greatestBaseOfUsers_7 : decode b_C_greatestBaseOfUsers 7 = .ok (.if_icmp .ge 36, 3) := by decide +kernel
theorem d_C_greatestBaseOfUsers_10 : decode b_C_greatestBaseOfUsers 10 = .ok (.aload_n 0, 1) := by decide +kernel
theorem d_C_greatestBaseOfUsers_11 : decode b_C_greatestBaseOfUsers 11 = .ok (.getfield 11, 3) := by decide +kernel
theorem d_C_greatestBaseOfUsers_14 : decode b_C_greatestBaseOfUsers 14 = .ok (.iload_n 3, 1) := by decide +kernel
theorem d_C_greatestBaseOfUsers_15 : decode b_C_greatestBaseOfUsers 15 = .ok (.aaload, 1) := by decide +kernel
theorem d_C_greatestBaseOfUsers_16 : decode b_C_greatestBaseOfUsers 16 = .ok (.iload_n 1, 1) := by decide +kernel
theorem d_C_greatestBaseOfUsers_17 : decode b_C_greatestBaseOfUsers 17 = .ok (.invokevirtual 114, 3) := by decide +kernel
theorem d_C_greatestBaseOfUsers_20 : decode b_C_greatestBaseOfUsers 20 = .ok (.ifCond .eq 17, 3) := by decide +kernel
theorem d_C_greatestBaseOfUsers_23 : decode b_C_greatestBaseOfUsers 23 = .ok (.iload_n 2, 1) := by decide +kernel
theorem d_C_greatestBaseOfUsers_24 : decode b_C_greatestBaseOfUsers 24 = .ok (.aload_n 0, 1) := by decide +kernel
theorem d_C_greatestBaseOfUsers_25 : decode b_C_greatestBaseOfUsers 25 = .ok (.getfield 11, 3) := by decide +kernel
theorem d_C_greatestBaseOfUsers_28 : decode b_C_greatestBaseOfUsers 28 = .ok (.iload_n 3, 1) := by decide +kernel
theorem d_C_greatestBaseOfUsers_29 : decode b_C_greatestBaseOfUsers 29 = .ok (.aaload, 1) := by decide +kernel
theorem d_C_greatestBaseOfUsers_30 : decode b_C_greatestBaseOfUsers 30 = .ok (.getfield 64, 3) := by decide +kernel
theorem d_C_greatestBaseOfUsers_33 : decode b_C_greatestBaseOfUsers 33 = .ok (.invokestatic 134, 3) := by decide +kernel
theorem d_C_greatestBaseOfUsers_36 : decode b_C_greatestBaseOfUsers 36 = .ok (.istore_n 2, 1) := by decide +kernel
theorem d_C_greatestBaseOfUsers_37 : decode b_C_greatestBaseOfUsers 37 = .ok (.iinc 3 1, 3) := by decide +kernel
theorem d_C_greatestBaseOfUsers_40 : decode b_C_greatestBaseOfUsers 40 = .ok (.goto (-36), 3) := by decide +kernel
theorem d_C_greatestBaseOfUsers_43 : decode b_C_greatestBaseOfUsers 43 = .ok (.iload_n 2, 1) := by decide +kernel
theorem d_C_greatestBaseOfUsers_44 : decode b_C_greatestBaseOfUsers 44 = .ok (.ireturn, 1) := by decide +kernel
theorem d_C_happened_0 : decode b_C_happened 0 = .ok (.aload_n 0, 1) := by decide +kernel
theorem d_C_happened_1 : decode b_C_happened 1 = .ok (.getfield 24, 3) := by decide +kernel
theorem d_C_happened_4 : decode b_C_happened 4 = .ok (.iload_n 1, 1) := by decide +kernel
theorem d_C_happened_5 : decode b_C_happened 5 = .ok (.iload_n 2, 1) := by decide +kernel
theorem d_C_happened_6 : decode b_C_happened 6 = .ok (.iload_n 3, 1) := by decide +kernel
theorem d_C_happened_7 : decode b_C_happened 7 = .ok (.aload_n 0, 1) := by decide +kernel
theorem d_C_happened_8 : decode b_C_happened 8 = .ok (.getfield 32, 3) := by decide +kernel
theorem d_C_happened_11 : decode b_C_happened 11 = .ok (.invokevirtual 180, 3) := by decide +kernel
theorem d_C_happened_14 : decode b_C_happened 14 = .ok (.aload_n 0, 1) := by decide +kernel
theorem d_C_happened_15 : decode b_C_happened 15 = .ok (.invokevirtual 184, 3) := by decide +kernel
theorem d_C_happened_18 : decode b_C_happened 18 = .ok (.istore 4, 2) := by decide +kernel
theorem d_C_happened_20 : decode b_C_happened 20 = .ok (.iload 4, 2) := by decide +kernel
theorem d_C_happened_22 : decode b_C_happened 22 = .ok (.aload_n 0, 1) := by decide +kernel
theorem d_C_happened_23 : decode b_C_happened 23 = .ok (.getfield 39, 3) := by decide +kernel
theorem d_C_happened_26 : decode b_C_happened 26 = .ok (.if_icmp .eq 36, 3) := by decide +kernel
theorem d_C_happened_29 : decode b_C_happened 29 = .ok (.aload_n 0, 1) := by decide +kernel
theorem d_C_happened_30 : decode b_C_happened 30 = .ok (.iload 4, 2) := by decide +kernel
theorem d_C_happened_32 : decode b_C_happened 32 = .ok (.putfield 39, 3) := by decide +kernel
theorem d_C_happened_35 : decode b_C_happened 35 = .ok (.aload_n 0, 1) := by decide +kernel
theorem d_C_happened_36 : decode b_C_happened 36 = .ok (.getfield 24, 3) := by decide +kernel
theorem d_C_happened_39 : decode b_C_happened 39 = .ok (.iconst 5, 1) := by decide +kernel
theorem d_C_happened_40 : decode b_C_happened 40 = .ok (.iload 4, 2) := by decide +kernel
theorem d_C_happened_42 : decode b_C_happened 42 = .ok (.iconst (-1), 1) := by decide +kernel
theorem d_C_happened_43 : decode b_C_happened 43 = .ok (.if_icmp .ne 8, 3) := by decide +kernel
theorem d_C_happened_46 : decode b_C_happened 46 = .ok (.bipush 8, 2) := by decide +kernel
theorem d_C_happened_48 : decode b_C_happened 48 = .ok (.goto 5, 3) := by decide +kernel
theorem d_C_happened_51 : decode b_C_happened 51 = .ok (.iload 4, 2) := by decide +kernel
theorem d_C_happened_53 : decode b_C_happened 53 = .ok (.bipush 15, 2) := by decide +kernel
theorem d_C_happened_55 : decode b_C_happened 55 = .ok (.aload_n 0, 1) := by decide +kernel
theorem d_C_happened_56 : decode b_C_happened 56 = .ok (.getfield 32, 3) := by decide +kernel
theorem d_C_happened_59 : decode b_C_happened 59 = .ok (.invokevirtual 180, 3) := by decide +kernel
theorem d_C_happened_62 : decode b_C_happened 62 = .ok (.return_, 1) := by decide +kernel
theorem d_C_mostUrgent_0 : decode b_C_mostUrgent 0 = .ok (.iconst (-1), 1) := by decide +kernel
theorem d_C_mostUrgent_1 : decode b_C_mostUrgent 1 = .ok (.istore_n 1, 1) := by decide +kernel
theorem d_C_mostUrgent_2 : decode b_C_mostUrgent 2 = .ok (.iconst 0, 1) := by decide +kernel
theorem d_C_mostUrgent_3 : decode b_C_mostUrgent 3 = .ok (.istore_n 2, 1) := by decide +kernel
theorem d_C_mostUrgent_4 : decode b_C_mostUrgent 4 = .ok (.iload_n 2, 1) := by decide +kernel
theorem d_C_mostUrgent_5 : decode b_C_mostUrgent 5 = .ok (.bipush 8, 2) := by decide +kernel
theorem d_C_mostUrgent_7 : decode b_C_mostUrgent 7 = .ok (.if_icmp .ge 46, 3) := by decide +kernel
theorem d_C_mostUrgent_10 : decode b_C_mostUrgent 10 = .ok (.aload_n 0, 1) := by decide +kernel
theorem d_C_mostUrgent_11 : decode b_C_mostUrgent 11 = .ok (.getfield 11, 3) := by decide +kernel
theorem d_C_mostUrgent_14 : decode b_C_mostUrgent 14 = .ok (.iload_n 2, 1) := by decide +kernel
theorem d_C_mostUrgent_15 : decode b_C_mostUrgent 15 = .ok (.aaload, 1) := by decide +kernel
theorem d_C_mostUrgent_16 : decode b_C_mostUrgent 16 = .ok (.getfield 146, 3) := by decide +kernel
theorem d_C_mostUrgent_19 : decode b_C_mostUrgent 19 = .ok (.ifCond .eq 28, 3) := by decide +kernel
theorem d_C_mostUrgent_22 : decode b_C_mostUrgent 22 = .ok (.iload_n 1, 1) := by decide +kernel
theorem d_C_mostUrgent_23 : decode b_C_mostUrgent 23 = .ok (.iconst (-1), 1) := by decide +kernel
theorem d_C_mostUrgent_24 : decode b_C_mostUrgent 24 = .ok (.if_icmp .eq 21, 3) := by decide +kernel
theorem d_C_mostUrgent_27 : decode b_C_mostUrgent 27 = .ok (.aload_n 0, 1) := by decide +kernel
theorem d_C_mostUrgent_28 : decode b_C_mostUrgent 28 = .ok (.getfield 11, 3) := by decide +kernel
theorem d_C_mostUrgent_31 : decode b_C_mostUrgent 31 = .ok (.iload_n 2, 1) := by decide +kernel
theorem d_C_mostUrgent_32 : decode b_C_mostUrgent 32 = .ok (.aaload, 1) := by decide +kernel
theorem d_C_mostUrgent_33 : decode b_C_mostUrgent 33 = .ok (.aload_n 0, 1) := by decide +kernel
theorem d_C_mostUrgent_34 : decode b_C_mostUrgent 34 = .ok (.getfield 11, 3) := by decide +kernel
theorem d_C_mostUrgent_37 : decode b_C_mostUrgent 37 = .ok (.iload_n 1, 1) := by decide +kernel
theorem d_C_mostUrgent_38 : decode b_C_mostUrgent 38 = .ok (.aaload, 1) := by decide +kernel
theorem d_C_mostUrgent_39 : decode b_C_mostUrgent 39 = .ok (.invokevirtual 158, 3) := by decide +kernel
theorem d_C_mostUrgent_42 : decode b_C_mostUrgent 42 = .ok (.ifCond .eq 5, 3) := by decide +kernel
theorem d_C_mostUrgent_45 : decode b_C_mostUrgent 45 = .ok (.iload_n 2, 1) := by decide +kernel
theorem d_C_mostUrgent_46 : decode b_C_mostUrgent 46 = .ok (.istore_n 1, 1) := by decide +kernel
theorem d_C_mostUrgent_47 : decode b_C_mostUrgent 47 = .ok (.iinc 2 1, 3) := by decide +kernel
theorem d_C_mostUrgent_50 : decode b_C_mostUrgent 50 = .ok (.goto (-46), 3) := by decide +kernel
theorem d_C_mostUrgent_53 : decode b_C_mostUrgent 53 = .ok (.iload_n 1, 1) := by decide +kernel
theorem d_C_mostUrgent_54 : decode b_C_mostUrgent 54 = .ok (.ireturn, 1) := by decide +kernel
theorem d_C_delayMoreUrgentThan_0 : decode b_C_delayMoreUrgentThan 0 = .ok (.iconst 0, 1) := by decide +kernel
theorem d_C_delayMoreUrgentThan_1 : decode b_C_delayMoreUrgentThan 1 = .ok (.istore_n 3, 1) := by decide +kernel
theorem d_C_delayMoreUrgentThan_2 : decode b_C_delayMoreUrgentThan 2 = .ok (.iload_n 3, 1) := by decide +kernel
theorem d_C_delayMoreUrgentThan_3 : decode b_C_delayMoreUrgentThan 3 = .ok (.bipush 8, 2) := by decide +kernel
theorem d_C_delayMoreUrgentThan_5 : decode b_C_delayMoreUrgentThan 5 = .ok (.if_icmp .ge 49, 3) := by decide +kernel
theorem d_C_delayMoreUrgentThan_8 : decode b_C_delayMoreUrgentThan 8 = .ok (.aload_n 0, 1) := by decide +kernel
theorem d_C_delayMoreUrgentThan_9 : decode b_C_delayMoreUrgentThan 9 = .ok (.getfield 11, 3) := by decide +kernel
theorem d_C_delayMoreUrgentThan_12 : decode b_C_delayMoreUrgentThan 12 = .ok (.iload_n 3, 1) := by decide +kernel
theorem d_C_delayMoreUrgentThan_13 : decode b_C_delayMoreUrgentThan 13 = .ok (.aaload, 1) := by decide +kernel
theorem d_C_delayMoreUrgentThan_14 : decode b_C_delayMoreUrgentThan 14 = .ok (.getfield 146, 3) := by decide +kernel
theorem d_C_delayMoreUrgentThan_17 : decode b_C_delayMoreUrgentThan 17 = .ok (.ifCond .eq 31, 3) := by decide +kernel
theorem d_C_delayMoreUrgentThan_20 : decode b_C_delayMoreUrgentThan 20 = .ok (.aload_n 0, 1) := by decide +kernel
theorem d_C_delayMoreUrgentThan_21 : decode b_C_delayMoreUrgentThan 21 = .ok (.getfield 11, 3) := by decide +kernel
theorem d_C_delayMoreUrgentThan_24 : decode b_C_delayMoreUrgentThan 24 = .ok (.iload_n 3, 1) := by decide +kernel
theorem d_C_delayMoreUrgentThan_25 : decode b_C_delayMoreUrgentThan 25 = .ok (.aaload, 1) := by decide +kernel
theorem d_C_delayMoreUrgentThan_26 : decode b_C_delayMoreUrgentThan 26 = .ok (.getfield 64, 3) := by decide +kernel
theorem d_C_delayMoreUrgentThan_29 : decode b_C_delayMoreUrgentThan 29 = .ok (.iload_n 1, 1) := by decide +kernel
theorem d_C_delayMoreUrgentThan_30 : decode b_C_delayMoreUrgentThan 30 = .ok (.if_icmp .le 18, 3) := by decide +kernel
theorem d_C_delayMoreUrgentThan_33 : decode b_C_delayMoreUrgentThan 33 = .ok (.aload_n 0, 1) := by decide +kernel
theorem d_C_delayMoreUrgentThan_34 : decode b_C_delayMoreUrgentThan 34 = .ok (.getfield 11, 3) := by decide +kernel
theorem d_C_delayMoreUrgentThan_37 : decode b_C_delayMoreUrgentThan 37 = .ok (.iload_n 3, 1) := by decide +kernel
theorem d_C_delayMoreUrgentThan_38 : decode b_C_delayMoreUrgentThan 38 = .ok (.aaload, 1) := by decide +kernel
theorem d_C_delayMoreUrgentThan_39 : decode b_C_delayMoreUrgentThan 39 = .ok (.dup, 1) := by decide +kernel
theorem d_C_delayMoreUrgentThan_40 : decode b_C_delayMoreUrgentThan 40 = .ok (.getfield 162, 3) := by decide +kernel
theorem d_C_delayMoreUrgentThan_43 : decode b_C_delayMoreUrgentThan 43 = .ok (.iload_n 2, 1) := by decide +kernel
theorem d_C_delayMoreUrgentThan_44 : decode b_C_delayMoreUrgentThan 44 = .ok (.iadd, 1) := by decide +kernel
theorem d_C_delayMoreUrgentThan_45 : decode b_C_delayMoreUrgentThan 45 = .ok (.putfield 162, 3) := by decide +kernel
theorem d_C_delayMoreUrgentThan_48 : decode b_C_delayMoreUrgentThan 48 = .ok (.iinc 3 1, 3) := by decide +kernel
theorem d_C_delayMoreUrgentThan_51 : decode b_C_delayMoreUrgentThan 51 = .ok (.goto (-49), 3) := by decide +kernel
theorem d_C_delayMoreUrgentThan_54 : decode b_C_delayMoreUrgentThan 54 = .ok (.return_, 1) := by decide +kernel
theorem d_C_longestBlockingAt_0 : decode b_C_longestBlockingAt 0 = .ok (.iconst 0, 1) := by decide +kernel
theorem d_C_longestBlockingAt_1 : decode b_C_longestBlockingAt 1 = .ok (.istore_n 2, 1) := by decide +kernel
theorem d_C_longestBlockingAt_2 : decode b_C_longestBlockingAt 2 = .ok (.iconst 0, 1) := by decide +kernel
theorem d_C_longestBlockingAt_3 : decode b_C_longestBlockingAt 3 = .ok (.istore_n 3, 1) := by decide +kernel
theorem d_C_longestBlockingAt_4 : decode b_C_longestBlockingAt 4 = .ok (.iload_n 3, 1) := by decide +kernel
theorem d_C_longestBlockingAt_5 : decode b_C_longestBlockingAt 5 = .ok (.bipush 8, 2) := by decide +kernel
theorem d_C_longestBlockingAt_7 : decode b_C_longestBlockingAt 7 = .ok (.if_icmp .ge 38, 3) := by decide +kernel
theorem d_C_longestBlockingAt_10 : decode b_C_longestBlockingAt 10 = .ok (.aload_n 0, 1) := by decide +kernel
theorem d_C_longestBlockingAt_11 : decode b_C_longestBlockingAt 11 = .ok (.getfield 11, 3) := by decide +kernel
theorem d_C_longestBlockingAt_14 : decode b_C_longestBlockingAt 14 = .ok (.iload_n 3, 1) := by decide +kernel
theorem d_C_longestBlockingAt_15 : decode b_C_longestBlockingAt 15 = .ok (.aaload, 1) := by decide +kernel
theorem d_C_longestBlockingAt_16 : decode b_C_longestBlockingAt 16 = .ok (.getfield 64, 3) := by decide +kernel
theorem d_C_longestBlockingAt_19 : decode b_C_longestBlockingAt 19 = .ok (.iload_n 1, 1) := by decide +kernel
theorem d_C_longestBlockingAt_20 : decode b_C_longestBlockingAt 20 = .ok (.if_icmp .ge 19, 3) := by decide +kernel
theorem d_C_longestBlockingAt_23 : decode b_C_longestBlockingAt 23 = .ok (.iload_n 2, 1) := by decide +kernel
theorem d_C_longestBlockingAt_24 : decode b_C_longestBlockingAt 24 = .ok (.aload_n 0, 1) := by decide +kernel
theorem d_C_longestBlockingAt_25 : decode b_C_longestBlockingAt 25 = .ok (.aload_n 0, 1) := by decide +kernel
theorem d_C_longestBlockingAt_26 : decode b_C_longestBlockingAt 26 = .ok (.getfield 11, 3) := by decide +kernel
theorem d_C_longestBlockingAt_29 : decode b_C_longestBlockingAt 29 = .ok (.iload_n 3, 1) := by decide +kernel
theorem d_C_longestBlockingAt_30 : decode b_C_longestBlockingAt 30 = .ok (.aaload, 1) := by decide +kernel
theorem d_C_longestBlockingAt_31 : decode b_C_longestBlockingAt 31 = .ok (.iload_n 1, 1) := by decide +kernel
theorem d_C_longestBlockingAt_32 : decode b_C_longestBlockingAt 32 = .ok (.invokevirtual 187, 3) := by decide +kernel
theorem d_C_longestBlockingAt_35 : decode b_C_longestBlockingAt 35 = .ok (.invokestatic 134, 3) := by decide +kernel
theorem d_C_longestBlockingAt_38 : decode b_C_longestBlockingAt 38 = .ok (.istore_n 2, 1) := by decide +kernel
theorem d_C_longestBlockingAt_39 : decode b_C_longestBlockingAt 39 = .ok (.iinc 3 1, 3) := by decide +kernel
theorem d_C_longestBlockingAt_42 : decode b_C_longestBlockingAt 42 = .ok (.goto (-38), 3) := by decide +kernel
theorem d_C_longestBlockingAt_45 : decode b_C_longestBlockingAt 45 = .ok (.iload_n 2, 1) := by decide +kernel
theorem d_C_longestBlockingAt_46 : decode b_C_longestBlockingAt 46 = .ok (.ireturn, 1) := by decide +kernel
theorem d_C_longestUseOfCeiling_0 : decode b_C_longestUseOfCeiling 0 = .ok (.iconst 0, 1) := by decide +kernel
theorem d_C_longestUseOfCeiling_1 : decode b_C_longestUseOfCeiling 1 = .ok (.istore_n 3, 1) := by decide +kernel
theorem d_C_longestUseOfCeiling_2 : decode b_C_longestUseOfCeiling 2 = .ok (.iconst 0, 1) := by decide +kernel
theorem d_C_longestUseOfCeiling_3 : decode b_C_longestUseOfCeiling 3 = .ok (.istore 4, 2) := by decide +kernel
theorem d_C_longestUseOfCeiling_5 : decode b_C_longestUseOfCeiling 5 = .ok (.iload 4, 2) := by decide +kernel
theorem d_C_longestUseOfCeiling_7 : decode b_C_longestUseOfCeiling 7 = .ok (.bipush 6, 2) := by decide +kernel
theorem d_C_longestUseOfCeiling_9 : decode b_C_longestUseOfCeiling 9 = .ok (.if_icmp .ge 35, 3) := by decide +kernel
theorem d_C_longestUseOfCeiling_12 : decode b_C_longestUseOfCeiling 12 = .ok (.aload_n 0, 1) := by decide +kernel
theorem d_C_longestUseOfCeiling_13 : decode b_C_longestUseOfCeiling 13 = .ok (.getfield 17, 3) := by decide +kernel
theorem d_C_longestUseOfCeiling_16 : decode b_C_longestUseOfCeiling 16 = .ok (.iload 4, 2) := by decide +kernel
theorem d_C_longestUseOfCeiling_18 : decode b_C_longestUseOfCeiling 18 = .ok (.aaload, 1) := by decide +kernel
theorem d_C_longestUseOfCeiling_19 : decode b_C_longestUseOfCeiling 19 = .ok (.getfield 87, 3) := by decide +kernel
theorem d_C_longestUseOfCeiling_22 : decode b_C_longestUseOfCeiling 22 = .ok (.iload_n 2, 1) := by decide +kernel
theorem d_C_longestUseOfCeiling_23 : decode b_C_longestUseOfCeiling 23 = .ok (.if_icmp .lt 15, 3) := by decide +kernel
theorem d_C_longestUseOfCeiling_26 : decode b_C_longestUseOfCeiling 26 = .ok (.iload_n 3, 1) := by decide +kernel
theorem d_C_longestUseOfCeiling_27 : decode b_C_longestUseOfCeiling 27 = .ok (.aload_n 1, 1) := by decide +kernel
theorem d_C_longestUseOfCeiling_28 : decode b_C_longestUseOfCeiling 28 = .ok (.getfield 79, 3) := by decide +kernel
theorem d_C_longestUseOfCeiling_31 : decode b_C_longestUseOfCeiling 31 = .ok (.iload 4, 2) := by decide +kernel
theorem d_C_longestUseOfCeiling_33 : decode b_C_longestUseOfCeiling 33 = .ok (.iaload, 1) := by decide +kernel
theorem d_C_longestUseOfCeiling_34 : decode b_C_longestUseOfCeiling 34 = .ok (.invokestatic 134, 3) := by decide +kernel
theorem d_C_longestUseOfCeiling_37 : decode b_C_longestUseOfCeiling 37 = .ok (.istore_n 3, 1) := by decide +kernel
theorem d_C_longestUseOfCeiling_38 : decode b_C_longestUseOfCeiling 38 = .ok (.iinc 4 1, 3) := by decide +kernel
theorem d_C_longestUseOfCeiling_41 : decode b_C_longestUseOfCeiling 41 = .ok (.goto (-36), 3) := by decide +kernel
theorem d_C_longestUseOfCeiling_44 : decode b_C_longestUseOfCeiling 44 = .ok (.iload_n 3, 1) := by decide +kernel
theorem d_C_longestUseOfCeiling_45 : decode b_C_longestUseOfCeiling 45 = .ok (.ireturn, 1) := by decide +kernel
theorem d_C_demandOfOthers_0 : decode b_C_demandOfOthers 0 = .ok (.iconst 0, 1) := by decide +kernel
theorem d_C_demandOfOthers_1 : decode b_C_demandOfOthers 1 = .ok (.istore_n 3, 1) := by decide +kernel
theorem d_C_demandOfOthers_2 : decode b_C_demandOfOthers 2 = .ok (.iconst 0, 1) := by decide +kernel
theorem d_C_demandOfOthers_3 : decode b_C_demandOfOthers 3 = .ok (.istore 4, 2) := by decide +kernel
theorem d_C_demandOfOthers_5 : decode b_C_demandOfOthers 5 = .ok (.iload 4, 2) := by decide +kernel
theorem d_C_demandOfOthers_7 : decode b_C_demandOfOthers 7 = .ok (.bipush 8, 2) := by decide +kernel
theorem d_C_demandOfOthers_9 : decode b_C_demandOfOthers 9 = .ok (.if_icmp .ge 51, 3) := by decide +kernel
theorem d_C_demandOfOthers_12 : decode b_C_demandOfOthers 12 = .ok (.iload 4, 2) := by decide +kernel
theorem d_C_demandOfOthers_14 : decode b_C_demandOfOthers 14 = .ok (.iload_n 1, 1) := by decide +kernel
theorem d_C_demandOfOthers_15 : decode b_C_demandOfOthers 15 = .ok (.if_icmp .eq 39, 3) := by decide +kernel
theorem d_C_demandOfOthers_18 : decode b_C_demandOfOthers 18 = .ok (.aload_n 0, 1) := by decide +kernel
theorem d_C_demandOfOthers_19 : decode b_C_demandOfOthers 19 = .ok (.getfield 11, 3) := by decide +kernel
theorem d_C_demandOfOthers_22 : decode b_C_demandOfOthers 22 = .ok (.iload 4, 2) := by decide +kernel
theorem d_C_demandOfOthers_24 : decode b_C_demandOfOthers 24 = .ok (.aaload, 1) := by decide +kernel
theorem d_C_demandOfOthers_25 : decode b_C_demandOfOthers 25 = .ok (.getfield 64, 3) := by decide +kernel
theorem d_C_demandOfOthers_28 : decode b_C_demandOfOthers 28 = .ok (.aload_n 0, 1) := by decide +kernel
theorem d_C_demandOfOthers_29 : decode b_C_demandOfOthers 29 = .ok (.getfield 11, 3) := by decide +kernel
theorem d_C_demandOfOthers_32 : decode b_C_demandOfOthers 32 = .ok (.iload_n 1, 1) := by decide +kernel
theorem d_C_demandOfOthers_33 : decode b_C_demandOfOthers 33 = .ok (.aaload, 1) := by decide +kernel
theorem d_C_demandOfOthers_34 : decode b_C_demandOfOthers 34 = .ok (.getfield 64, 3) := by decide +kernel
theorem d_C_demandOfOthers_37 : decode b_C_demandOfOthers 37 = .ok (.if_icmp .lt 17, 3) := by decide +kernel
theorem d_C_demandOfOthers_40 : decode b_C_demandOfOthers 40 = .ok (.iload_n 3, 1) := by decide +kernel
theorem d_C_demandOfOthers_41 : decode b_C_demandOfOthers 41 = .ok (.aload_n 0, 1) := by decide +kernel
theorem d_C_demandOfOthers_42 : decode b_C_demandOfOthers 42 = .ok (.getfield 11, 3) := by decide +kernel
theorem d_C_demandOfOthers_45 : decode b_C_demandOfOthers 45 = .ok (.iload 4, 2) := by decide +kernel
theorem d_C_demandOfOthers_47 : decode b_C_demandOfOthers 47 = .ok (.aaload, 1) := by decide +kernel
theorem d_C_demandOfOthers_48 : decode b_C_demandOfOthers 48 = .ok (.iload_n 2, 1) := by decide +kernel
theorem d_C_demandOfOthers_49 : decode b_C_demandOfOthers 49 = .ok (.invokevirtual 191, 3) := by decide +kernel
theorem d_C_demandOfOthers_52 : decode b_C_demandOfOthers 52 = .ok (.iadd, 1) := by decide +kernel
theorem d_C_demandOfOthers_53 : decode b_C_demandOfOthers 53 = .ok (.istore_n 3, 1) := by decide +kernel
theorem d_C_demandOfOthers_54 : decode b_C_demandOfOthers 54 = .ok (.iinc 4 1, 3) := by decide +kernel
theorem d_C_demandOfOthers_57 : decode b_C_demandOfOthers 57 = .ok (.goto (-52), 3) := by decide +kernel
theorem d_C_demandOfOthers_60 : decode b_C_demandOfOthers 60 = .ok (.iload_n 3, 1) := by decide +kernel
theorem d_C_demandOfOthers_61 : decode b_C_demandOfOthers 61 = .ok (.ireturn, 1) := by decide +kernel
theorem d_T_init_0 : decode b_T_init 0 = .ok (.aload_n 0, 1) := by decide +kernel
theorem d_T_init_1 : decode b_T_init 1 = .ok (.invokespecial 3, 3) := by decide +kernel
theorem d_T_init_4 : decode b_T_init 4 = .ok (.aload_n 0, 1) := by decide +kernel
theorem d_T_init_5 : decode b_T_init 5 = .ok (.iconst 0, 1) := by decide +kernel
theorem d_T_init_6 : decode b_T_init 6 = .ok (.putfield 9, 3) := by decide +kernel
theorem d_T_init_9 : decode b_T_init 9 = .ok (.aload_n 0, 1) := by decide +kernel
theorem d_T_init_10 : decode b_T_init 10 = .ok (.iconst 0, 1) := by decide +kernel
theorem d_T_init_11 : decode b_T_init 11 = .ok (.putfield 15, 3) := by decide +kernel
theorem d_T_init_14 : decode b_T_init 14 = .ok (.aload_n 0, 1) := by decide +kernel
theorem d_T_init_15 : decode b_T_init 15 = .ok (.iconst 0, 1) := by decide +kernel
theorem d_T_init_16 : decode b_T_init 16 = .ok (.putfield 18, 3) := by decide +kernel
theorem d_T_init_19 : decode b_T_init 19 = .ok (.aload_n 0, 1) := by decide +kernel
theorem d_T_init_20 : decode b_T_init 20 = .ok (.bipush 6, 2) := by decide +kernel
theorem d_T_init_22 : decode b_T_init 22 = .ok (.newarray .int, 2) := by decide +kernel
theorem d_T_init_24 : decode b_T_init 24 = .ok (.putfield 21, 3) := by decide +kernel
theorem d_T_init_27 : decode b_T_init 27 = .ok (.aload_n 0, 1) := by decide +kernel
theorem d_T_init_28 : decode b_T_init 28 = .ok (.iconst 0, 1) := by decide +kernel
theorem d_T_init_29 : decode b_T_init 29 = .ok (.putfield 25, 3) := by decide +kernel
theorem d_T_init_32 : decode b_T_init 32 = .ok (.aload_n 0, 1) := by decide +kernel
theorem d_T_init_33 : decode b_T_init 33 = .ok (.iconst 0, 1) := by decide +kernel
theorem d_T_init_34 : decode b_T_init 34 = .ok (.putfield 29, 3) := by decide +kernel
theorem d_T_init_37 : decode b_T_init 37 = .ok (.aload_n 0, 1) := by decide +kernel
theorem d_T_init_38 : decode b_T_init 38 = .ok (.iconst 0, 1) := by decide +kernel
theorem d_T_init_39 : decode b_T_init 39 = .ok (.putfield 32, 3) := by decide +kernel
theorem d_T_init_42 : decode b_T_init 42 = .ok (.aload_n 0, 1) := by decide +kernel
theorem d_T_init_43 : decode b_T_init 43 = .ok (.iconst (-1), 1) := by decide +kernel
theorem d_T_init_44 : decode b_T_init 44 = .ok (.putfield 35, 3) := by decide +kernel
theorem d_T_init_47 : decode b_T_init 47 = .ok (.aload_n 0, 1) := by decide +kernel
theorem d_T_init_48 : decode b_T_init 48 = .ok (.iconst 0, 1) := by decide +kernel
theorem d_T_init_49 : decode b_T_init 49 = .ok (.putfield 38, 3) := by decide +kernel
theorem d_T_init_52 : decode b_T_init 52 = .ok (.aload_n 0, 1) := by decide +kernel
theorem d_T_init_53 : decode b_T_init 53 = .ok (.iconst 0, 1) := by decide +kernel
theorem d_T_init_54 : decode b_T_init 54 = .ok (.putfield 41, 3) := by decide +kernel
theorem d_T_init_57 : decode b_T_init 57 = .ok (.return_, 1) := by decide +kernel
theorem d_T_isDeclared_0 : decode b_T_isDeclared 0 = .ok (.aload_n 0, 1) := by decide +kernel
theorem d_T_isDeclared_1 : decode b_T_isDeclared 1 = .ok (.getfield 18, 3) := by decide +kernel
theorem d_T_isDeclared_4 : decode b_T_isDeclared 4 = .ok (.ifCond .le 7, 3) := by decide +kernel
theorem d_T_isDeclared_7 : decode b_T_isDeclared 7 = .ok (.iconst 1, 1) := by decide +kernel
theorem d_T_isDeclared_8 : decode b_T_isDeclared 8 = .ok (.goto 4, 3) := by decide +kernel
theorem d_T_isDeclared_11 : decode b_T_isDeclared 11 = .ok (.iconst 0, 1) := by decide +kernel
theorem d_T_isDeclared_12 : decode b_T_isDeclared 12 = .ok (.ireturn, 1) := by decide +kernel
theorem d_T_isUserOf_0 : decode b_T_isUserOf 0 = .ok (.aload_n 0, 1) := by decide +kernel
theorem d_T_isUserOf_1 : decode b_T_isUserOf 1 = .ok (.getfield 21, 3) := by decide +kernel
theorem d_T_isUserOf_4 : decode b_T_isUserOf 4 = .ok (.iload_n 1, 1) := by decide +kernel
theorem d_T_isUserOf_5 : decode b_T_isUserOf 5 = .ok (.iaload, 1) := by decide +kernel
theorem d_T_isUserOf_6 : decode b_T_isUserOf 6 = .ok (.ifCond .le 7, 3) := by decide +kernel
theorem d_T_isUserOf_9 : decode b_T_isUserOf 9 = .ok (.iconst 1, 1) := by decide +kernel
theorem d_T_isUserOf_10 : decode b_T_isUserOf 10 = .ok (.goto 4, 3) := by decide +kernel
theorem d_T_isUserOf_13 : decode b_T_isUserOf 13 = .ok (.iconst 0, 1) := by decide +kernel
theorem d_T_isUserOf_14 : decode b_T_isUserOf 14 = .ok (.ireturn, 1) := by decide +kernel
theorem d_T_makeReady_0 : decode b_T_makeReady 0 = .ok (.aload_n 0, 1) := by decide +kernel
theorem d_T_makeReady_1 : decode b_T_makeReady 1 = .ok (.iconst 1, 1) := by decide +kernel
theorem d_T_makeReady_2 : decode b_T_makeReady 2 = .ok (.putfield 25, 3) := by decide +kernel
theorem d_T_makeReady_5 : decode b_T_makeReady 5 = .ok (.aload_n 0, 1) := by decide +kernel
theorem d_T_makeReady_6 : decode b_T_makeReady 6 = .ok (.aload_n 0, 1) := by decide +kernel
theorem d_T_makeReady_7 : decode b_T_makeReady 7 = .ok (.getfield 9, 3) := by decide +kernel
theorem d_T_makeReady_10 : decode b_T_makeReady 10 = .ok (.putfield 29, 3) := by decide +kernel
theorem d_T_makeReady_13 : decode b_T_makeReady 13 = .ok (.aload_n 0, 1) := by decide +kernel
theorem d_T_makeReady_14 : decode b_T_makeReady 14 = .ok (.iload_n 1, 1) := by decide +kernel
theorem d_T_makeReady_15 : decode b_T_makeReady 15 = .ok (.putfield 32, 3) := by decide +kernel
theorem d_T_makeReady_18 : decode b_T_makeReady 18 = .ok (.aload_n 0, 1) := by decide +kernel
theorem d_T_makeReady_19 : decode b_T_makeReady 19 = .ok (.iconst 0, 1) := by decide +kernel
theorem d_T_makeReady_20 : decode b_T_makeReady 20 = .ok (.putfield 38, 3) := by decide +kernel
theorem d_T_makeReady_23 : decode b_T_makeReady 23 = .ok (.aload_n 0, 1) := by decide +kernel
theorem d_T_makeReady_24 : decode b_T_makeReady 24 = .ok (.iconst 0, 1) := by decide +kernel
theorem d_T_makeReady_25 : decode b_T_makeReady 25 = .ok (.putfield 41, 3) := by decide +kernel
theorem d_T_makeReady_28 : decode b_T_makeReady 28 = .ok (.return_, 1) := by decide +kernel
theorem d_T_goesBefore_0 : decode b_T_goesBefore 0 = .ok (.aload_n 0, 1) := by decide +kernel
theorem d_T_goesBefore_1 : decode b_T_goesBefore 1 = .ok (.getfield 29, 3) := by decide +kernel
theorem d_T_goesBefore_4 : decode b_T_goesBefore 4 = .ok (.aload_n 1, 1) := by decide +kernel
theorem d_T_goesBefore_5 : decode b_T_goesBefore 5 = .ok (.getfield 29, 3) := by decide +kernel
theorem d_T_goesBefore_8 : decode b_T_goesBefore 8 = .ok (.if_icmp .gt 25, 3) := by decide +kernel
theorem d_T_goesBefore_11 : decode b_T_goesBefore 11 = .ok (.aload_n 0, 1) := by decide +kernel
theorem d_T_goesBefore_12 : decode b_T_goesBefore 12 = .ok (.getfield 29, 3) := by decide +kernel
theorem d_T_goesBefore_15 : decode b_T_goesBefore 15 = .ok (.aload_n 1, 1) := by decide +kernel
theorem d_T_goesBefore_16 : decode b_T_goesBefore 16 = .ok (.getfield 29, 3) := by decide +kernel
theorem d_T_goesBefore_19 : decode b_T_goesBefore 19 = .ok (.if_icmp .ne 18, 3) := by decide +kernel
theorem d_T_goesBefore_22 : decode b_T_goesBefore 22 = .ok (.aload_n 0, 1) := by decide +kernel
theorem d_T_goesBefore_23 : decode b_T_goesBefore 23 = .ok (.getfield 32, 3) := by decide +kernel
theorem d_T_goesBefore_26 : decode b_T_goesBefore 26 = .ok (.aload_n 1, 1) := by decide +kernel
theorem d_T_goesBefore_27 : decode b_T_goesBefore 27 = .ok (.getfield 32, 3) := by decide +kernel
theorem d_T_goesBefore_30 : decode b_T_goesBefore 30 = .ok (.if_icmp .ge 7, 3) := by decide +kernel
theorem d_T_goesBefore_33 : decode b_T_goesBefore 33 = .ok (.iconst 1, 1) := by decide +kernel
theorem d_T_goesBefore_34 : decode b_T_goesBefore 34 = .ok (.goto 4, 3) := by decide +kernel
theorem d_T_goesBefore_37 : decode b_T_goesBefore 37 = .ok (.iconst 0, 1) := by decide +kernel
theorem d_T_goesBefore_38 : decode b_T_goesBefore 38 = .ok (.ireturn, 1) := by decide +kernel
theorem d_T_demandIn_0 : decode b_T_demandIn 0 = .ok (.aload_n 0, 1) := by decide +kernel
theorem d_T_demandIn_1 : decode b_T_demandIn 1 = .ok (.invokevirtual 44, 3) := by decide +kernel
theorem d_T_demandIn_4 : decode b_T_demandIn 4 = .ok (.ifCond .eq 24, 3) := by decide +kernel
theorem d_T_demandIn_7 : decode b_T_demandIn 7 = .ok (.aload_n 0, 1) := by decide +kernel
theorem d_T_demandIn_8 : decode b_T_demandIn 8 = .ok (.getfield 15, 3) := by decide +kernel
theorem d_T_demandIn_11 : decode b_T_demandIn 11 = .ok (.iload_n 1, 1) := by decide +kernel
theorem d_T_demandIn_12 : decode b_T_demandIn 12 = .ok (.aload_n 0, 1) := by decide +kernel
theorem d_T_demandIn_13 : decode b_T_demandIn 13 = .ok (.getfield 18, 3) := by decide +kernel
theorem d_T_demandIn_16 : decode b_T_demandIn 16 = .ok (.iadd, 1) := by decide +kernel
theorem d_T_demandIn_17 : decode b_T_demandIn 17 = .ok (.iconst 1, 1) := by decide +kernel
theorem d_T_demandIn_18 : decode b_T_demandIn 18 = .ok (.isub, 1) := by decide +kernel
theorem d_T_demandIn_19 : decode b_T_demandIn 19 = .ok (.aload_n 0, 1) := by decide +kernel
theorem d_T_demandIn_20 : decode b_T_demandIn 20 = .ok (.getfield 18, 3) := by decide +kernel
theorem d_T_demandIn_23 : decode b_T_demandIn 23 = .ok (.idiv, 1) := by decide +kernel
theorem d_T_demandIn_24 : decode b_T_demandIn 24 = .ok (.imul, 1) := by decide +kernel
theorem d_T_demandIn_25 : decode b_T_demandIn 25 = .ok (.goto 4, 3) := by decide +kernel
theorem d_T_demandIn_28 : decode b_T_demandIn 28 = .ok (.iconst 0, 1) := by decide +kernel
theorem d_T_demandIn_29 : decode b_T_demandIn 29 = .ok (.ireturn, 1) := by decide +kernel
theorem d_H_init_0 : decode b_H_init 0 = .ok (.aload_n 0, 1) := by decide +kernel
theorem d_H_init_1 : decode b_H_init 1 = .ok (.invokespecial 3, 3) := by decide +kernel
theorem d_H_init_4 : decode b_H_init 4 = .ok (.aload_n 0, 1) := by decide +kernel
theorem d_H_init_5 : decode b_H_init 5 = .ok (.iconst 0, 1) := by decide +kernel
theorem d_H_init_6 : decode b_H_init 6 = .ok (.putfield 9, 3) := by decide +kernel
theorem d_H_init_9 : decode b_H_init 9 = .ok (.aload_n 0, 1) := by decide +kernel
theorem d_H_init_10 : decode b_H_init 10 = .ok (.iconst (-1), 1) := by decide +kernel
theorem d_H_init_11 : decode b_H_init 11 = .ok (.putfield 15, 3) := by decide +kernel
theorem d_H_init_14 : decode b_H_init 14 = .ok (.aload_n 0, 1) := by decide +kernel
theorem d_H_init_15 : decode b_H_init 15 = .ok (.iconst (-1), 1) := by decide +kernel
theorem d_H_init_16 : decode b_H_init 16 = .ok (.putfield 18, 3) := by decide +kernel
theorem d_H_init_19 : decode b_H_init 19 = .ok (.aload_n 0, 1) := by decide +kernel
theorem d_H_init_20 : decode b_H_init 20 = .ok (.iconst 0, 1) := by decide +kernel
theorem d_H_init_21 : decode b_H_init 21 = .ok (.putfield 21, 3) := by decide +kernel
theorem d_H_init_24 : decode b_H_init 24 = .ok (.return_, 1) := by decide +kernel
theorem d_N_init_0 : decode b_N_init 0 = .ok (.aload_n 0, 1) := by decide +kernel
theorem d_N_init_1 : decode b_N_init 1 = .ok (.invokespecial 3, 3) := by decide +kernel
theorem d_N_init_4 : decode b_N_init 4 = .ok (.aload_n 0, 1) := by decide +kernel
theorem d_N_init_5 : decode b_N_init 5 = .ok (.bipush 40, 2) := by decide +kernel
theorem d_N_init_7 : decode b_N_init 7 = .ok (.newarray .int, 2) := by decide +kernel
theorem d_N_init_9 : decode b_N_init 9 = .ok (.putfield 9, 3) := by decide +kernel
theorem d_N_init_12 : decode b_N_init 12 = .ok (.aload_n 0, 1) := by decide +kernel
theorem d_N_init_13 : decode b_N_init 13 = .ok (.iconst 0, 1) := by decide +kernel
theorem d_N_init_14 : decode b_N_init 14 = .ok (.putfield 15, 3) := by decide +kernel
theorem d_N_init_17 : decode b_N_init 17 = .ok (.return_, 1) := by decide +kernel
theorem d_N_write_0 : decode b_N_write 0 = .ok (.aload_n 0, 1) := by decide +kernel
theorem d_N_write_1 : decode b_N_write 1 = .ok (.getfield 9, 3) := by decide +kernel
theorem d_N_write_4 : decode b_N_write 4 = .ok (.aload_n 0, 1) := by decide +kernel
theorem d_N_write_5 : decode b_N_write 5 = .ok (.getfield 15, 3) := by decide +kernel
theorem d_N_write_8 : decode b_N_write 8 = .ok (.bipush 40, 2) := by decide +kernel
theorem d_N_write_10 : decode b_N_write 10 = .ok (.invokestatic 19, 3) := by decide +kernel
theorem d_N_write_13 : decode b_N_write 13 = .ok (.sipush 4096, 3) := by decide +kernel
theorem d_N_write_16 : decode b_N_write 16 = .ok (.iload 4, 2) := by decide +kernel
theorem d_N_write_18 : decode b_N_write 18 = .ok (.ldc 25, 2) := by decide +kernel
theorem d_N_write_20 : decode b_N_write 20 = .ok (.invokestatic 19, 3) := by decide +kernel
theorem d_N_write_23 : decode b_N_write 23 = .ok (.imul, 1) := by decide +kernel
theorem d_N_write_24 : decode b_N_write 24 = .ok (.sipush 256, 3) := by decide +kernel
theorem d_N_write_27 : decode b_N_write 27 = .ok (.iload_n 3, 1) := by decide +kernel
theorem d_N_write_28 : decode b_N_write 28 = .ok (.imul, 1) := by decide +kernel
theorem d_N_write_29 : decode b_N_write 29 = .ok (.iadd, 1) := by decide +kernel
theorem d_N_write_30 : decode b_N_write 30 = .ok (.bipush 16, 2) := by decide +kernel
theorem d_N_write_32 : decode b_N_write 32 = .ok (.iload_n 2, 1) := by decide +kernel
theorem d_N_write_33 : decode b_N_write 33 = .ok (.imul, 1) := by decide +kernel
theorem d_N_write_34 : decode b_N_write 34 = .ok (.iadd, 1) := by decide +kernel
theorem d_N_write_35 : decode b_N_write 35 = .ok (.iload_n 1, 1) := by decide +kernel
theorem d_N_write_36 : decode b_N_write 36 = .ok (.iadd, 1) := by decide +kernel
theorem d_N_write_37 : decode b_N_write 37 = .ok (.iastore, 1) := by decide +kernel
theorem d_N_write_38 : decode b_N_write 38 = .ok (.aload_n 0, 1) := by decide +kernel
theorem d_N_write_39 : decode b_N_write 39 = .ok (.dup, 1) := by decide +kernel
theorem d_N_write_40 : decode b_N_write 40 = .ok (.getfield 15, 3) := by decide +kernel
theorem d_N_write_43 : decode b_N_write 43 = .ok (.iconst 1, 1) := by decide +kernel
theorem d_N_write_44 : decode b_N_write 44 = .ok (.iadd, 1) := by decide +kernel
theorem d_N_write_45 : decode b_N_write 45 = .ok (.putfield 15, 3) := by decide +kernel
theorem d_N_write_48 : decode b_N_write 48 = .ok (.return_, 1) := by decide +kernel
theorem d_N_fromLatest_0 : decode b_N_fromLatest 0 = .ok (.iload_n 1, 1) := by decide +kernel
theorem d_N_fromLatest_1 : decode b_N_fromLatest 1 = .ok (.ifCond .lt 17, 3) := by decide +kernel
theorem d_N_fromLatest_4 : decode b_N_fromLatest 4 = .ok (.iload_n 1, 1) := by decide +kernel
theorem d_N_fromLatest_5 : decode b_N_fromLatest 5 = .ok (.bipush 40, 2) := by decide +kernel
theorem d_N_fromLatest_7 : decode b_N_fromLatest 7 = .ok (.if_icmp .ge 11, 3) := by decide +kernel
theorem d_N_fromLatest_10 : decode b_N_fromLatest 10 = .ok (.iload_n 1, 1) := by decide +kernel
theorem d_N_fromLatest_11 : decode b_N_fromLatest 11 = .ok (.aload_n 0, 1) := by decide +kernel
theorem d_N_fromLatest_12 : decode b_N_fromLatest 12 = .ok (.getfield 15, 3) := by decide +kernel
theorem d_N_fromLatest_15 : decode b_N_fromLatest 15 = .ok (.if_icmp .lt 5, 3) := by decide +kernel
theorem d_N_fromLatest_18 : decode b_N_fromLatest 18 = .ok (.iconst (-1), 1) := by decide +kernel
theorem d_N_fromLatest_19 : decode b_N_fromLatest 19 = .ok (.ireturn, 1) := by decide +kernel
theorem d_N_fromLatest_20 : decode b_N_fromLatest 20 = .ok (.aload_n 0, 1) := by decide +kernel
theorem d_N_fromLatest_21 : decode b_N_fromLatest 21 = .ok (.getfield 9, 3) := by decide +kernel
theorem d_N_fromLatest_24 : decode b_N_fromLatest 24 = .ok (.aload_n 0, 1) := by decide +kernel
theorem d_N_fromLatest_25 : decode b_N_fromLatest 25 = .ok (.getfield 15, 3) := by decide +kernel
theorem d_N_fromLatest_28 : decode b_N_fromLatest 28 = .ok (.iconst 1, 1) := by decide +kernel
theorem d_N_fromLatest_29 : decode b_N_fromLatest 29 = .ok (.isub, 1) := by decide +kernel
theorem d_N_fromLatest_30 : decode b_N_fromLatest 30 = .ok (.iload_n 1, 1) := by decide +kernel
theorem d_N_fromLatest_31 : decode b_N_fromLatest 31 = .ok (.isub, 1) := by decide +kernel
theorem d_N_fromLatest_32 : decode b_N_fromLatest 32 = .ok (.bipush 40, 2) := by decide +kernel
theorem d_N_fromLatest_34 : decode b_N_fromLatest 34 = .ok (.invokestatic 19, 3) := by decide +kernel
theorem d_N_fromLatest_37 : decode b_N_fromLatest 37 = .ok (.iaload, 1) := by decide +kernel
theorem d_N_fromLatest_38 : decode b_N_fromLatest 38 = .ok (.ireturn, 1) := by decide +kernel
theorem d_J_floorMod_0 : decode b_J_floorMod 0 = .ok (.iload_n 0, 1) := by decide +kernel
theorem d_J_floorMod_1 : decode b_J_floorMod 1 = .ok (.iload_n 1, 1) := by decide +kernel
theorem d_J_floorMod_2 : decode b_J_floorMod 2 = .ok (.irem, 1) := by decide +kernel
theorem d_J_floorMod_3 : decode b_J_floorMod 3 = .ok (.istore_n 2, 1) := by decide +kernel
theorem d_J_floorMod_4 : decode b_J_floorMod 4 = .ok (.iload_n 0, 1) := by decide +kernel
theorem d_J_floorMod_5 : decode b_J_floorMod 5 = .ok (.iload_n 1, 1) := by decide +kernel
theorem d_J_floorMod_6 : decode b_J_floorMod 6 = .ok (.ixor, 1) := by decide +kernel
theorem d_J_floorMod_7 : decode b_J_floorMod 7 = .ok (.ifCond .ge 11, 3) := by decide +kernel
theorem d_J_floorMod_10 : decode b_J_floorMod 10 = .ok (.iload_n 2, 1) := by decide +kernel
theorem d_J_floorMod_11 : decode b_J_floorMod 11 = .ok (.ifCond .eq 7, 3) := by decide +kernel
theorem d_J_floorMod_14 : decode b_J_floorMod 14 = .ok (.iload_n 2, 1) := by decide +kernel
theorem d_J_floorMod_15 : decode b_J_floorMod 15 = .ok (.iload_n 1, 1) := by decide +kernel
theorem d_J_floorMod_16 : decode b_J_floorMod 16 = .ok (.iadd, 1) := by decide +kernel
theorem d_J_floorMod_17 : decode b_J_floorMod 17 = .ok (.ireturn, 1) := by decide +kernel
theorem d_J_floorMod_18 : decode b_J_floorMod 18 = .ok (.iload_n 2, 1) := by decide +kernel
theorem d_J_floorMod_19 : decode b_J_floorMod 19 = .ok (.ireturn, 1) := by decide +kernel
