-- decode rows of the reference
theorem d_M_init_0 : decode b_M_init 0 = .ok (.aload_n 0, 1) := by decide +kernel
theorem d_M_init_1 : decode b_M_init 1 = .ok (.invokespecial 1, 3) := by decide +kernel
theorem d_M_init_4 : decode b_M_init 4 = .ok (.aload_n 0, 1) := by decide +kernel
theorem d_M_init_5 : decode b_M_init 5 = .ok (.bipush 8, 2) := by decide +kernel
theorem d_M_init_7 : decode b_M_init 7 = .ok (.newarray .int, 2) := by decide +kernel
theorem d_M_init_9 : decode b_M_init 9 = .ok (.putfield 7, 3) := by decide +kernel
theorem d_M_init_12 : decode b_M_init 12 = .ok (.aload_n 0, 1) := by decide +kernel
theorem d_M_init_13 : decode b_M_init 13 = .ok (.bipush 8, 2) := by decide +kernel
theorem d_M_init_15 : decode b_M_init 15 = .ok (.newarray .int, 2) := by decide +kernel
theorem d_M_init_17 : decode b_M_init 17 = .ok (.putfield 13, 3) := by decide +kernel
theorem d_M_init_20 : decode b_M_init 20 = .ok (.aload_n 0, 1) := by decide +kernel
theorem d_M_init_21 : decode b_M_init 21 = .ok (.bipush 8, 2) := by decide +kernel
theorem d_M_init_23 : decode b_M_init 23 = .ok (.newarray .int, 2) := by decide +kernel
theorem d_M_init_25 : decode b_M_init 25 = .ok (.putfield 16, 3) := by decide +kernel
theorem d_M_init_28 : decode b_M_init 28 = .ok (.aload_n 0, 1) := by decide +kernel
theorem d_M_init_29 : decode b_M_init 29 = .ok (.bipush 8, 2) := by decide +kernel
theorem d_M_init_31 : decode b_M_init 31 = .ok (.newarray .int, 2) := by decide +kernel
theorem d_M_init_33 : decode b_M_init 33 = .ok (.putfield 19, 3) := by decide +kernel
theorem d_M_init_36 : decode b_M_init 36 = .ok (.aload_n 0, 1) := by decide +kernel
theorem d_M_init_37 : decode b_M_init 37 = .ok (.bipush 8, 2) := by decide +kernel
theorem d_M_init_39 : decode b_M_init 39 = .ok (.newarray .int, 2) := by decide +kernel
theorem d_M_init_41 : decode b_M_init 41 = .ok (.putfield 22, 3) := by decide +kernel
theorem d_M_init_44 : decode b_M_init 44 = .ok (.aload_n 0, 1) := by decide +kernel
theorem d_M_init_45 : decode b_M_init 45 = .ok (.bipush 8, 2) := by decide +kernel
theorem d_M_init_47 : decode b_M_init 47 = .ok (.newarray .int, 2) := by decide +kernel
theorem d_M_init_49 : decode b_M_init 49 = .ok (.putfield 25, 3) := by decide +kernel
theorem d_M_init_52 : decode b_M_init 52 = .ok (.aload_n 0, 1) := by decide +kernel
theorem d_M_init_53 : decode b_M_init 53 = .ok (.bipush 8, 2) := by decide +kernel
theorem d_M_init_55 : decode b_M_init 55 = .ok (.newarray .int, 2) := by decide +kernel
theorem d_M_init_57 : decode b_M_init 57 = .ok (.putfield 28, 3) := by decide +kernel
theorem d_M_init_60 : decode b_M_init 60 = .ok (.aload_n 0, 1) := by decide +kernel
theorem d_M_init_61 : decode b_M_init 61 = .ok (.bipush 48, 2) := by decide +kernel
theorem d_M_init_63 : decode b_M_init 63 = .ok (.newarray .int, 2) := by decide +kernel
theorem d_M_init_65 : decode b_M_init 65 = .ok (.putfield 31, 3) := by decide +kernel
theorem d_M_init_68 : decode b_M_init 68 = .ok (.aload_n 0, 1) := by decide +kernel
theorem d_M_init_69 : decode b_M_init 69 = .ok (.bipush 6, 2) := by decide +kernel
theorem d_M_init_71 : decode b_M_init 71 = .ok (.newarray .int, 2) := by decide +kernel
theorem d_M_init_73 : decode b_M_init 73 = .ok (.putfield 34, 3) := by decide +kernel
theorem d_M_init_76 : decode b_M_init 76 = .ok (.aload_n 0, 1) := by decide +kernel
theorem d_M_init_77 : decode b_M_init 77 = .ok (.bipush 6, 2) := by decide +kernel
theorem d_M_init_79 : decode b_M_init 79 = .ok (.newarray .int, 2) := by decide +kernel
theorem d_M_init_81 : decode b_M_init 81 = .ok (.putfield 37, 3) := by decide +kernel
theorem d_M_init_84 : decode b_M_init 84 = .ok (.aload_n 0, 1) := by decide +kernel
theorem d_M_init_85 : decode b_M_init 85 = .ok (.bipush 6, 2) := by decide +kernel
theorem d_M_init_87 : decode b_M_init 87 = .ok (.newarray .int, 2) := by decide +kernel
theorem d_M_init_89 : decode b_M_init 89 = .ok (.putfield 40, 3) := by decide +kernel
theorem d_M_init_92 : decode b_M_init 92 = .ok (.aload_n 0, 1) := by decide +kernel
theorem d_M_init_93 : decode b_M_init 93 = .ok (.bipush 40, 2) := by decide +kernel
theorem d_M_init_95 : decode b_M_init 95 = .ok (.newarray .int, 2) := by decide +kernel
theorem d_M_init_97 : decode b_M_init 97 = .ok (.putfield 43, 3) := by decide +kernel
theorem d_M_init_100 : decode b_M_init 100 = .ok (.iconst 0, 1) := by decide +kernel
theorem d_M_init_101 : decode b_M_init 101 = .ok (.istore_n 1, 1) := by decide +kernel
theorem d_M_init_102 : decode b_M_init 102 = .ok (.iload_n 1, 1) := by decide +kernel
theorem d_M_init_103 : decode b_M_init 103 = .ok (.bipush 6, 2) := by decide +kernel
theorem d_M_init_105 : decode b_M_init 105 = .ok (.if_icmp .ge 16, 3) := by decide +kernel
theorem d_M_init_108 : decode b_M_init 108 = .ok (.aload_n 0, 1) := by decide +kernel
theorem d_M_init_109 : decode b_M_init 109 = .ok (.getfield 34, 3) := by decide +kernel
theorem d_M_init_112 : decode b_M_init 112 = .ok (.iload_n 1, 1) := by decide +kernel
theorem d_M_init_113 : decode b_M_init 113 = .ok (.iconst (-1), 1) := by decide +kernel
theorem d_M_init_114 : decode b_M_init 114 = .ok (.iastore, 1) := by decide +kernel
theorem d_M_init_115 : decode b_M_init 115 = .ok (.iinc 1 1, 3) := by decide +kernel
theorem d_M_init_118 : decode b_M_init 118 = .ok (.goto (-16), 3) := by decide +kernel
theorem d_M_init_121 : decode b_M_init 121 = .ok (.return_, 1) := by decide +kernel
theorem d_M_thrown_0 : decode b_M_thrown 0 = .ok (.aload_n 0, 1) := by decide +kernel
theorem d_M_thrown_1 : decode b_M_thrown 1 = .ok (.getfield 46, 3) := by decide +kernel
theorem d_M_thrown_4 : decode b_M_thrown 4 = .ok (.ireturn, 1) := by decide +kernel
theorem d_M_refuses_0 : decode b_M_refuses 0 = .ok (.aload_n 0, 1) := by decide +kernel
theorem d_M_refuses_1 : decode b_M_refuses 1 = .ok (.iload_n 1, 1) := by decide +kernel
theorem d_M_refuses_2 : decode b_M_refuses 2 = .ok (.ifCond .eq 7, 3) := by decide +kernel
theorem d_M_refuses_5 : decode b_M_refuses 5 = .ok (.iconst 1, 1) := by decide +kernel
theorem d_M_refuses_6 : decode b_M_refuses 6 = .ok (.goto 12, 3) := by decide +kernel
theorem d_M_refuses_9 : decode b_M_refuses 9 = .ok (.iload_n 2, 1) := by decide +kernel
theorem d_M_refuses_10 : decode b_M_refuses 10 = .ok (.ifCond .eq 7, 3) := by decide +kernel
theorem d_M_refuses_13 : decode b_M_refuses 13 = .ok (.iconst 2, 1) := by decide +kernel
theorem d_M_refuses_14 : decode b_M_refuses 14 = .ok (.goto 4, 3) := by decide +kernel
theorem d_M_refuses_17 : decode b_M_refuses 17 = .ok (.iconst 0, 1) := by decide +kernel
theorem d_M_refuses_18 : decode b_M_refuses 18 = .ok (.putfield 46, 3) := by decide +kernel
theorem d_M_refuses_21 : decode b_M_refuses 21 = .ok (.aload_n 0, 1) := by decide +kernel
theorem d_M_refuses_22 : decode b_M_refuses 22 = .ok (.getfield 46, 3) := by decide +kernel
theorem d_M_refuses_25 : decode b_M_refuses 25 = .ok (.ifCond .le 7, 3) := by decide +kernel
theorem d_M_refuses_28 : decode b_M_refuses 28 = .ok (.iconst 1, 1) := by decide +kernel
theorem d_M_refuses_29 : decode b_M_refuses 29 = .ok (.goto 4, 3) := by decide +kernel
theorem d_M_refuses_32 : decode b_M_refuses 32 = .ok (.iconst 0, 1) := by decide +kernel
theorem d_M_refuses_33 : decode b_M_refuses 33 = .ok (.ireturn, 1) := by decide +kernel
theorem d_M_isTask_0 : decode b_M_isTask 0 = .ok (.iload_n 0, 1) := by decide +kernel
theorem d_M_isTask_1 : decode b_M_isTask 1 = .ok (.ifCond .lt 13, 3) := by decide +kernel
theorem d_M_isTask_4 : decode b_M_isTask 4 = .ok (.iload_n 0, 1) := by decide +kernel
theorem d_M_isTask_5 : decode b_M_isTask 5 = .ok (.bipush 8, 2) := by decide +kernel
theorem d_M_isTask_7 : decode b_M_isTask 7 = .ok (.if_icmp .ge 7, 3) := by decide +kernel
theorem d_M_isTask_10 : decode b_M_isTask 10 = .ok (.iconst 1, 1) := by decide +kernel
theorem d_M_isTask_11 : decode b_M_isTask 11 = .ok (.goto 4, 3) := by decide +kernel
theorem d_M_isTask_14 : decode b_M_isTask 14 = .ok (.iconst 0, 1) := by decide +kernel
theorem d_M_isTask_15 : decode b_M_isTask 15 = .ok (.ireturn, 1) := by decide +kernel
theorem d_M_isThing_0 : decode b_M_isThing 0 = .ok (.iload_n 0, 1) := by decide +kernel
theorem d_M_isThing_1 : decode b_M_isThing 1 = .ok (.ifCond .lt 13, 3) := by decide +kernel
theorem d_M_isThing_4 : decode b_M_isThing 4 = .ok (.iload_n 0, 1) := by decide +kernel
theorem d_M_isThing_5 : decode b_M_isThing 5 = .ok (.bipush 6, 2) := by decide +kernel
theorem d_M_isThing_7 : decode b_M_isThing 7 = .ok (.if_icmp .ge 7, 3) := by decide +kernel
theorem d_M_isThing_10 : decode b_M_isThing 10 = .ok (.iconst 1, 1) := by decide +kernel
theorem d_M_isThing_11 : decode b_M_isThing 11 = .ok (.goto 4, 3) := by decide +kernel
theorem d_M_isThing_14 : decode b_M_isThing 14 = .ok (.iconst 0, 1) := by decide +kernel
theorem d_M_isThing_15 : decode b_M_isThing 15 = .ok (.ireturn, 1) := by decide +kernel
theorem d_M_isDeclared_0 : decode b_M_isDeclared 0 = .ok (.iload_n 1, 1) := by decide +kernel
theorem d_M_isDeclared_1 : decode b_M_isDeclared 1 = .ok (.invokestatic 50, 3) := by decide +kernel
theorem d_M_isDeclared_4 : decode b_M_isDeclared 4 = .ok (.ifCond .eq 16, 3) := by decide +kernel
theorem d_M_isDeclared_7 : decode b_M_isDeclared 7 = .ok (.aload_n 0, 1) := by decide +kernel
theorem d_M_isDeclared_8 : decode b_M_isDeclared 8 = .ok (.getfield 7, 3) := by decide +kernel
theorem d_M_isDeclared_11 : decode b_M_isDeclared 11 = .ok (.iload_n 1, 1) := by decide +kernel
theorem d_M_isDeclared_12 : decode b_M_isDeclared 12 = .ok (.iaload, 1) := by decide +kernel
theorem d_M_isDeclared_13 : decode b_M_isDeclared 13 = .ok (.ifCond .le 7, 3) := by decide +kernel
theorem d_M_isDeclared_16 : decode b_M_isDeclared 16 = .ok (.iconst 1, 1) := by decide +kernel
theorem d_M_isDeclared_17 : decode b_M_isDeclared 17 = .ok (.goto 4, 3) := by decide +kernel
theorem d_M_isDeclared_20 : decode b_M_isDeclared 20 = .ok (.iconst 0, 1) := by decide +kernel
theorem d_M_isDeclared_21 : decode b_M_isDeclared 21 = .ok (.ireturn, 1) := by decide +kernel
theorem d_M_isReady_0 : decode b_M_isReady 0 = .ok (.iload_n 1, 1) := by decide +kernel
theorem d_M_isReady_1 : decode b_M_isReady 1 = .ok (.invokestatic 50, 3) := by decide +kernel
theorem d_M_isReady_4 : decode b_M_isReady 4 = .ok (.ifCond .eq 16, 3) := by decide +kernel
theorem d_M_isReady_7 : decode b_M_isReady 7 = .ok (.aload_n 0, 1) := by decide +kernel
theorem d_M_isReady_8 : decode b_M_isReady 8 = .ok (.getfield 19, 3) := by decide +kernel
theorem d_M_isReady_11 : decode b_M_isReady 11 = .ok (.iload_n 1, 1) := by decide +kernel
theorem d_M_isReady_12 : decode b_M_isReady 12 = .ok (.iaload, 1) := by decide +kernel
theorem d_M_isReady_13 : decode b_M_isReady 13 = .ok (.ifCond .le 7, 3) := by decide +kernel
theorem d_M_isReady_16 : decode b_M_isReady 16 = .ok (.iconst 1, 1) := by decide +kernel
theorem d_M_isReady_17 : decode b_M_isReady 17 = .ok (.goto 4, 3) := by decide +kernel
theorem d_M_isReady_20 : decode b_M_isReady 20 = .ok (.iconst 0, 1) := by decide +kernel
theorem d_M_isReady_21 : decode b_M_isReady 21 = .ok (.ireturn, 1) := by decide +kernel
theorem d_M_declare_0 : decode b_M_declare 0 = .ok (.iload_n 1, 1) := by decide +kernel
theorem d_M_declare_1 : decode b_M_declare 1 = .ok (.invokestatic 50, 3) := by decide +kernel
theorem d_M_declare_4 : decode b_M_declare 4 = .ok (.ifCond .eq 39, 3) := by decide +kernel
theorem d_M_declare_7 : decode b_M_declare 7 = .ok (.iload_n 2, 1) := by decide +kernel
theorem d_M_declare_8 : decode b_M_declare 8 = .ok (.iconst 1, 1) := by decide +kernel
theorem d_M_declare_9 : decode b_M_declare 9 = .ok (.if_icmp .lt 34, 3) := by decide +kernel
theorem d_M_declare_12 : decode b_M_declare 12 = .ok (.iload_n 2, 1) := by decide +kernel
theorem d_M_declare_13 : decode b_M_declare 13 = .ok (.bipush 16, 2) := by decide +kernel
theorem d_M_declare_15 : decode b_M_declare 15 = .ok (.if_icmp .gt 28, 3) := by decide +kernel
theorem d_M_declare_18 : decode b_M_declare 18 = .ok (.iload_n 3, 1) := by decide +kernel
theorem d_M_declare_19 : decode b_M_declare 19 = .ok (.iconst 1, 1) := by decide +kernel
theorem d_M_declare_20 : decode b_M_declare 20 = .ok (.if_icmp .lt 23, 3) := by decide +kernel
theorem d_M_declare_23 : decode b_M_declare 23 = .ok (.iload_n 3, 1) := by decide +kernel
theorem d_M_declare_24 : decode b_M_declare 24 = .ok (.bipush 50, 2) := by decide +kernel
theorem d_M_declare_26 : decode b_M_declare 26 = .ok (.if_icmp .gt 17, 3) := by decide +kernel
theorem d_M_declare_29 : decode b_M_declare 29 = .ok (.iload 4, 2) := by decide +kernel
theorem d_M_declare_31 : decode b_M_declare 31 = .ok (.iconst 1, 1) := by decide +kernel
theorem d_M_declare_32 : decode b_M_declare 32 = .ok (.if_icmp .lt 11, 3) := by decide +kernel
theorem d_M_declare_35 : decode b_M_declare 35 = .ok (.iload 4, 2) := by decide +kernel
theorem d_M_declare_37 : decode b_M_declare 37 = .ok (.sipush 200, 3) := by decide +kernel
theorem d_M_declare_40 : decode b_M_declare 40 = .ok (.if_icmp .le 7, 3) := by decide +kernel
theorem d_M_declare_43 : decode b_M_declare 43 = .ok (.iconst 1, 1) := by decide +kernel
theorem d_M_declare_44 : decode b_M_declare 44 = .ok (.goto 4, 3) := by decide +kernel
theorem d_M_declare_47 : decode b_M_declare 47 = .ok (.iconst 0, 1) := by decide +kernel
theorem d_M_declare_48 : decode b_M_declare 48 = .ok (.istore 5, 2) := by decide +kernel
theorem d_M_declare_50 : decode b_M_declare 50 = .ok (.aload_n 0, 1) := by decide +kernel
theorem d_M_declare_51 : decode b_M_declare 51 = .ok (.aload_n 0, 1) := by decide +kernel
theorem d_M_declare_52 : decode b_M_declare 52 = .ok (.getfield 54, 3) := by decide +kernel
theorem d_M_declare_55 : decode b_M_declare 55 = .ok (.ifCond .ne 11, 3) := by decide +kernel
theorem d_M_declare_58 : decode b_M_declare 58 = .ok (.aload_n 0, 1) := by decide +kernel
theorem d_M_declare_59 : decode b_M_declare 59 = .ok (.iload_n 1, 1) := by decide +kernel
theorem d_M_declare_60 : decode b_M_declare 60 = .ok (.invokevirtual 58, 3) := by decide +kernel
theorem d_M_declare_63 : decode b_M_declare 63 = .ok (.ifCond .eq 7, 3) := by decide +kernel
theorem d_M_declare_66 : decode b_M_declare 66 = .ok (.iconst 1, 1) := by decide +kernel
theorem d_M_declare_67 : decode b_M_declare 67 = .ok (.goto 4, 3) := by decide +kernel
theorem d_M_declare_70 : decode b_M_declare 70 = .ok (.iconst 0, 1) := by decide +kernel
theorem d_M_declare_71 : decode b_M_declare 71 = .ok (.iload 5, 2) := by decide +kernel
theorem d_M_declare_73 : decode b_M_declare 73 = .ok (.invokevirtual 61, 3) := by decide +kernel
theorem d_M_declare_76 : decode b_M_declare 76 = .ok (.ifCond .eq 4, 3) := by decide +kernel
theorem d_M_declare_79 : decode b_M_declare 79 = .ok (.return_, 1) := by decide +kernel
theorem d_M_declare_80 : decode b_M_declare 80 = .ok (.aload_n 0, 1) := by decide +kernel
theorem d_M_declare_81 : decode b_M_declare 81 = .ok (.getfield 7, 3) := by decide +kernel
theorem d_M_declare_84 : decode b_M_declare 84 = .ok (.iload_n 1, 1) := by decide +kernel
theorem d_M_declare_85 : decode b_M_declare 85 = .ok (.iload_n 2, 1) := by decide +kernel
theorem d_M_declare_86 : decode b_M_declare 86 = .ok (.iastore, 1) := by decide +kernel
theorem d_M_declare_87 : decode b_M_declare 87 = .ok (.aload_n 0, 1) := by decide +kernel
theorem d_M_declare_88 : decode b_M_declare 88 = .ok (.getfield 13, 3) := by decide +kernel
theorem d_M_declare_91 : decode b_M_declare 91 = .ok (.iload_n 1, 1) := by decide +kernel
theorem d_M_declare_92 : decode b_M_declare 92 = .ok (.iload_n 3, 1) := by decide +kernel
theorem d_M_declare_93 : decode b_M_declare 93 = .ok (.iastore, 1) := by decide +kernel
theorem d_M_declare_94 : decode b_M_declare 94 = .ok (.aload_n 0, 1) := by decide +kernel
theorem d_M_declare_95 : decode b_M_declare 95 = .ok (.getfield 16, 3) := by decide +kernel
theorem d_M_declare_98 : decode b_M_declare 98 = .ok (.iload_n 1, 1) := by decide +kernel
theorem d_M_declare_99 : decode b_M_declare 99 = .ok (.iload 4, 2) := by decide +kernel
theorem d_M_declare_101 : decode b_M_declare 101 = .ok (.iastore, 1) := by decide +kernel
theorem d_M_declare_102 : decode b_M_declare 102 = .ok (.aload_n 0, 1) := by decide +kernel
theorem d_M_declare_103 : decode b_M_declare 103 = .ok (.getfield 22, 3) := by decide +kernel
theorem d_M_declare_106 : decode b_M_declare 106 = .ok (.iload_n 1, 1) := by decide +kernel
theorem d_M_declare_107 : decode b_M_declare 107 = .ok (.iload_n 2, 1) := by decide +kernel
theorem d_M_declare_108 : decode b_M_declare 108 = .ok (.iastore, 1) := by decide +kernel
theorem d_M_declare_109 : decode b_M_declare 109 = .ok (.return_, 1) := by decide +kernel
theorem d_M_mayUse_0 : decode b_M_mayUse 0 = .ok (.aload_n 0, 1) := by decide +kernel
theorem d_M_mayUse_1 : decode b_M_mayUse 1 = .ok (.aload_n 0, 1) := by decide +kernel
theorem d_M_mayUse_2 : decode b_M_mayUse 2 = .ok (.getfield 54, 3) := by decide +kernel
theorem d_M_mayUse_5 : decode b_M_mayUse 5 = .ok (.aload_n 0, 1) := by decide +kernel
theorem d_M_mayUse_6 : decode b_M_mayUse 6 = .ok (.iload_n 1, 1) := by decide +kernel
theorem d_M_mayUse_7 : decode b_M_mayUse 7 = .ok (.invokevirtual 58, 3) := by decide +kernel
theorem d_M_mayUse_10 : decode b_M_mayUse 10 = .ok (.ifCond .eq 21, 3) := by decide +kernel
theorem d_M_mayUse_13 : decode b_M_mayUse 13 = .ok (.iload_n 2, 1) := by decide +kernel
theorem d_M_mayUse_14 : decode b_M_mayUse 14 = .ok (.invokestatic 65, 3) := by decide +kernel
theorem d_M_mayUse_17 : decode b_M_mayUse 17 = .ok (.ifCond .eq 14, 3) := by decide +kernel
theorem d_M_mayUse_20 : decode b_M_mayUse 20 = .ok (.iload_n 3, 1) := by decide +kernel
theorem d_M_mayUse_21 : decode b_M_mayUse 21 = .ok (.iconst 1, 1) := by decide +kernel
theorem d_M_mayUse_22 : decode b_M_mayUse 22 = .ok (.if_icmp .lt 9, 3) := by decide +kernel
theorem d_M_mayUse_25 : decode b_M_mayUse 25 = .ok (.iload_n 3, 1) := by decide +kernel
theorem d_M_mayUse_26 : decode b_M_mayUse 26 = .ok (.bipush 50, 2) := by decide +kernel
theorem d_M_mayUse_28 : decode b_M_mayUse 28 = .ok (.if_icmp .le 7, 3) := by decide +kernel
theorem d_M_mayUse_31 : decode b_M_mayUse 31 = .ok (.iconst 1, 1) := by decide +kernel
theorem d_M_mayUse_32 : decode b_M_mayUse 32 = .ok (.goto 4, 3) := by decide +kernel
theorem d_M_mayUse_35 : decode b_M_mayUse 35 = .ok (.iconst 0, 1) := by decide +kernel
theorem d_M_mayUse_36 : decode b_M_mayUse 36 = .ok (.invokevirtual 61, 3) := by decide +kernel
theorem d_M_mayUse_39 : decode b_M_mayUse 39 = .ok (.ifCond .ne 15, 3) := by decide +kernel
theorem d_M_mayUse_42 : decode b_M_mayUse 42 = .ok (.aload_n 0, 1) := by decide +kernel
theorem d_M_mayUse_43 : decode b_M_mayUse 43 = .ok (.getfield 31, 3) := by decide +kernel
theorem d_M_mayUse_46 : decode b_M_mayUse 46 = .ok (.bipush 6, 2) := by decide +kernel
theorem d_M_mayUse_48 : decode b_M_mayUse 48 = .ok (.iload_n 1, 1) := by decide +kernel
theorem d_M_mayUse_49 : decode b_M_mayUse 49 = .ok (.imul, 1) := by decide +kernel
theorem d_M_mayUse_50 : decode b_M_mayUse 50 = .ok (.iload_n 2, 1) := by decide +kernel
theorem d_M_mayUse_51 : decode b_M_mayUse 51 = .ok (.iadd, 1) := by decide +kernel
theorem d_M_mayUse_52 : decode b_M_mayUse 52 = .ok (.iload_n 3, 1) := by decide +kernel
theorem d_M_mayUse_53 : decode b_M_mayUse 53 = .ok (.iastore, 1) := by decide +kernel
theorem d_M_mayUse_54 : decode b_M_mayUse 54 = .ok (.return_, 1) := by decide +kernel
theorem d_M_seal_0 : decode b_M_seal 0 = .ok (.aload_n 0, 1) := by decide +kernel
theorem d_M_seal_1 : decode b_M_seal 1 = .ok (.aload_n 0, 1) := by decide +kernel
theorem d_M_seal_2 : decode b_M_seal 2 = .ok (.getfield 54, 3) := by decide +kernel
theorem d_M_seal_5 : decode b_M_seal 5 = .ok (.iconst 0, 1) := by decide +kernel
theorem d_M_seal_6 : decode b_M_seal 6 = .ok (.invokevirtual 61, 3) := by decide +kernel
theorem d_M_seal_9 : decode b_M_seal 9 = .ok (.ifCond .eq 5, 3) := by decide +kernel
theorem d_M_seal_12 : decode b_M_seal 12 = .ok (.iconst 0, 1) := by decide +kernel
theorem d_M_seal_13 : decode b_M_seal 13 = .ok (.ireturn, 1) := by decide +kernel
theorem d_M_seal_14 : decode b_M_seal 14 = .ok (.aload_n 0, 1) := by decide +kernel
theorem d_M_seal_15 : decode b_M_seal 15 = .ok (.iconst 1, 1) := by decide +kernel
theorem d_M_seal_16 : decode b_M_seal 16 = .ok (.putfield 54, 3) := by decide +kernel
theorem d_M_seal_19 : decode b_M_seal 19 = .ok (.iconst 0, 1) := by decide +kernel
theorem d_M_seal_20 : decode b_M_seal 20 = .ok (.istore_n 1, 1) := by decide +kernel
theorem d_M_seal_21 : decode b_M_seal 21 = .ok (.iconst 0, 1) := by decide +kernel
theorem d_M_seal_22 : decode b_M_seal 22 = .ok (.istore_n 2, 1) := by decide +kernel
theorem d_M_seal_23 : decode b_M_seal 23 = .ok (.iload_n 2, 1) := by decide +kernel
theorem d_M_seal_24 : decode b_M_seal 24 = .ok (.bipush 8, 2) := by decide +kernel
theorem d_M_seal_26 : decode b_M_seal 26 = .ok (.if_icmp .ge 26, 3) := by decide +kernel
theorem d_M_seal_29 : decode b_M_seal 29 = .ok (.iload_n 1, 1) := by decide +kernel
theorem d_M_seal_30 : decode b_M_seal 30 = .ok (.aload_n 0, 1) := by decide +kernel
theorem d_M_seal_31 : decode b_M_seal 31 = .ok (.getfield 7, 3) := by decide +kernel
theorem d_M_seal_34 : decode b_M_seal 34 = .ok (.iload_n 2, 1) := by decide +kernel
theorem d_M_seal_35 : decode b_M_seal 35 = .ok (.iaload, 1) := by decide +kernel
theorem d_M_seal_36 : decode b_M_seal 36 = .ok (.ifCond .le 7, 3) := by decide +kernel
theorem d_M_seal_39 : decode b_M_seal 39 = .ok (.iconst 1, 1) := by decide +kernel
theorem d_M_seal_40 : decode b_M_seal 40 = .ok (.goto 4, 3) := by decide +kernel
theorem d_M_seal_43 : decode b_M_seal 43 = .ok (.iconst 0, 1) := by decide +kernel
theorem d_M_seal_44 : decode b_M_seal 44 = .ok (.iadd, 1) := by decide +kernel
theorem d_M_seal_45 : decode b_M_seal 45 = .ok (.istore_n 1, 1) := by decide +kernel
theorem d_M_seal_46 : decode b_M_seal 46 = .ok (.iinc 2 1, 3) := by decide +kernel
theorem d_M_seal_49 : decode b_M_seal 49 = .ok (.goto (-26), 3) := by decide +kernel
theorem d_M_seal_52 : decode b_M_seal 52 = .ok (.iload_n 1, 1) := by decide +kernel
theorem d_M_seal_53 : decode b_M_seal 53 = .ok (.ireturn, 1) := by decide +kernel
theorem d_M_isFirst_0 : decode b_M_isFirst 0 = .ok (.aload_n 0, 1) := by decide +kernel
theorem d_M_isFirst_1 : decode b_M_isFirst 1 = .ok (.getfield 22, 3) := by decide +kernel
theorem d_M_isFirst_4 : decode b_M_isFirst 4 = .ok (.iload_n 1, 1) := by decide +kernel
theorem d_M_isFirst_5 : decode b_M_isFirst 5 = .ok (.iaload, 1) := by decide +kernel
theorem d_M_isFirst_6 : decode b_M_isFirst 6 = .ok (.aload_n 0, 1) := by decide +kernel
theorem d_M_isFirst_7 : decode b_M_isFirst 7 = .ok (.getfield 22, 3) := by decide +kernel
theorem d_M_isFirst_10 : decode b_M_isFirst 10 = .ok (.iload_n 2, 1) := by decide +kernel
theorem d_M_isFirst_11 : decode b_M_isFirst 11 = .ok (.iaload, 1) := by decide +kernel
theorem d_M_isFirst_12 : decode b_M_isFirst 12 = .ok (.if_icmp .gt 33, 3) := by decide +kernel
theorem d_M_isFirst_15 : decode b_M_isFirst 15 = .ok (.aload_n 0, 1) := by decide +kernel
theorem d_M_isFirst_16 : decode b_M_isFirst 16 = .ok (.getfield 22, 3) := by decide +kernel
theorem d_M_isFirst_19 : decode b_M_isFirst 19 = .ok (.iload_n 1, 1) := by decide +kernel
theorem d_M_isFirst_20 : decode b_M_isFirst 20 = .ok (.iaload, 1) := by decide +kernel
theorem d_M_isFirst_21 : decode b_M_isFirst 21 = .ok (.aload_n 0, 1) := by decide +kernel
theorem d_M_isFirst_22 : decode b_M_isFirst 22 = .ok (.getfield 22, 3) := by decide +kernel
theorem d_M_isFirst_25 : decode b_M_isFirst 25 = .ok (.iload_n 2, 1) := by decide +kernel
theorem d_M_isFirst_26 : decode b_M_isFirst 26 = .ok (.iaload, 1) := by decide +kernel
theorem d_M_isFirst_27 : decode b_M_isFirst 27 = .ok (.if_icmp .ne 22, 3) := by decide +kernel
theorem d_M_isFirst_30 : decode b_M_isFirst 30 = .ok (.aload_n 0, 1) := by decide +kernel
theorem d_M_isFirst_31 : decode b_M_isFirst 31 = .ok (.getfield 19, 3) := by decide +kernel
theorem d_M_isFirst_34 : decode b_M_isFirst 34 = .ok (.iload_n 1, 1) := by decide +kernel
theorem d_M_isFirst_35 : decode b_M_isFirst 35 = .ok (.iaload, 1) := by decide +kernel
theorem d_M_isFirst_36 : decode b_M_isFirst 36 = .ok (.aload_n 0, 1) := by decide +kernel
theorem d_M_isFirst_37 : decode b_M_isFirst 37 = .ok (.getfield 19, 3) := by decide +kernel
theorem d_M_isFirst_40 : decode b_M_isFirst 40 = .ok (.iload_n 2, 1) := by decide +kernel
theorem d_M_isFirst_41 : decode b_M_isFirst 41 = .ok (.iaload, 1) := by decide +kernel
theorem d_M_isFirst_42 : decode b_M_isFirst 42 = .ok (.if_icmp .ge 7, 3) := by decide +kernel
theorem d_M_isFirst_45 : decode b_M_isFirst 45 = .ok (.iconst 1, 1) := by decide +kernel
theorem d_M_isFirst_46 : decode b_M_isFirst 46 = .ok (.goto 4, 3) := by decide +kernel
theorem d_M_isFirst_49 : decode b_M_isFirst 49 = .ok (.iconst 0, 1) := by decide +kernel
theorem d_M_isFirst_50 : decode b_M_isFirst 50 = .ok (.ireturn, 1) := by decide +kernel
theorem d_M_runner_0 : decode b_M_runner 0 = .ok (.iconst (-1), 1) := by decide +kernel
theorem d_M_runner_1 : decode b_M_runner 1 = .ok (.istore_n 1, 1) := by decide +kernel
theorem d_M_runner_2 : decode b_M_runner 2 = .ok (.iconst 0, 1) := by decide +kernel
theorem d_M_runner_3 : decode b_M_runner 3 = .ok (.istore_n 2, 1) := by decide +kernel
theorem d_M_runner_4 : decode b_M_runner 4 = .ok (.iload_n 2, 1) := by decide +kernel
theorem d_M_runner_5 : decode b_M_runner 5 = .ok (.bipush 8, 2) := by decide +kernel
theorem d_M_runner_7 : decode b_M_runner 7 = .ok (.if_icmp .ge 38, 3) := by decide +kernel
theorem d_M_runner_10 : decode b_M_runner 10 = .ok (.aload_n 0, 1) := by decide +kernel
theorem d_M_runner_11 : decode b_M_runner 11 = .ok (.getfield 19, 3) := by decide +kernel
theorem d_M_runner_14 : decode b_M_runner 14 = .ok (.iload_n 2, 1) := by decide +kernel
theorem d_M_runner_15 : decode b_M_runner 15 = .ok (.iaload, 1) := by decide +kernel
theorem d_M_runner_16 : decode b_M_runner 16 = .ok (.ifCond .le 21, 3) := by decide +kernel
theorem d_M_runner_19 : decode b_M_runner 19 = .ok (.iload_n 1, 1) := by decide +kernel
theorem d_M_runner_20 : decode b_M_runner 20 = .ok (.iconst (-1), 1) := by decide +kernel
theorem d_M_runner_21 : decode b_M_runner 21 = .ok (.if_icmp .eq 12, 3) := by decide +kernel
theorem d_M_runner_24 : decode b_M_runner 24 = .ok (.aload_n 0, 1) := by decide +kernel
theorem d_M_runner_25 : decode b_M_runner 25 = .ok (.iload_n 2, 1) := by decide +kernel
theorem d_M_runner_26 : decode b_M_runner 26 = .ok (.iload_n 1, 1) := by decide +kernel
theorem d_M_runner_27 : decode b_M_runner 27 = .ok (.invokevirtual 68, 3) := by decide +kernel
theorem d_M_runner_30 : decode b_M_runner 30 = .ok (.ifCond .eq 7, 3) := by decide +kernel
theorem d_M_runner_33 : decode b_M_runner 33 = .ok (.iload_n 2, 1) := by decide +kernel
theorem d_M_runner_34 : decode b_M_runner 34 = .ok (.goto 4, 3) := by decide +kernel
theorem d_M_runner_37 : decode b_M_runner 37 = .ok (.iload_n 1, 1) := by decide +kernel
theorem d_M_runner_38 : decode b_M_runner 38 = .ok (.istore_n 1, 1) := by decide +kernel
theorem d_M_runner_39 : decode b_M_runner 39 = .ok (.iinc 2 1, 3) := by decide +kernel
theorem d_M_runner_42 : decode b_M_runner 42 = .ok (.goto (-38), 3) := by decide +kernel
theorem d_M_runner_45 : decode b_M_runner 45 = .ok (.iload_n 1, 1) := by decide +kernel
theorem d_M_runner_46 : decode b_M_runner 46 = .ok (.ireturn, 1) := by decide +kernel
theorem d_M_add_0 : decode b_M_add 0 = .ok (.aload_n 0, 1) := by decide +kernel
theorem d_M_add_1 : decode b_M_add 1 = .ok (.getfield 43, 3) := by decide +kernel
theorem d_M_add_4 : decode b_M_add 4 = .ok (.aload_n 0, 1) := by decide +kernel
theorem d_M_add_5 : decode b_M_add 5 = .ok (.getfield 72, 3) := by decide +kernel
theorem d_M_add_8 : decode b_M_add 8 = .ok (.bipush 40, 2) := by decide +kernel
theorem d_M_add_10 : decode b_M_add 10 = .ok (.irem, 1) := by decide +kernel
theorem d_M_add_11 : decode b_M_add 11 = .ok (.aload_n 0, 1) := by decide +kernel
theorem d_M_add_12 : decode b_M_add 12 = .ok (.getfield 75, 3) := by decide +kernel
theorem d_M_add_15 : decode b_M_add 15 = .ok (.ldc 78, 2) := by decide +kernel
theorem d_M_add_17 : decode b_M_add 17 = .ok (.irem, 1) := by decide +kernel
theorem d_M_add_18 : decode b_M_add 18 = .ok (.sipush 4096, 3) := by decide +kernel
theorem d_M_add_21 : decode b_M_add 21 = .ok (.imul, 1) := by decide +kernel
theorem d_M_add_22 : decode b_M_add 22 = .ok (.sipush 256, 3) := by decide +kernel
theorem d_M_add_25 : decode b_M_add 25 = .ok (.iload_n 3, 1) := by decide +kernel
theorem d_M_add_26 : decode b_M_add 26 = .ok (.imul, 1) := by decide +kernel
theorem d_M_add_27 : decode b_M_add 27 = .ok (.iadd, 1) := by decide +kernel
theorem d_M_add_28 : decode b_M_add 28 = .ok (.bipush 16, 2) := by decide +kernel
theorem d_M_add_30 : decode b_M_add 30 = .ok (.iload_n 2, 1) := by decide +kernel
theorem d_M_add_31 : decode b_M_add 31 = .ok (.imul, 1) := by decide +kernel
theorem d_M_add_32 : decode b_M_add 32 = .ok (.iadd, 1) := by decide +kernel
theorem d_M_add_33 : decode b_M_add 33 = .ok (.iload_n 1, 1) := by decide +kernel
theorem d_M_add_34 : decode b_M_add 34 = .ok (.iadd, 1) := by decide +kernel
theorem d_M_add_35 : decode b_M_add 35 = .ok (.iastore, 1) := by decide +kernel
theorem d_M_add_36 : decode b_M_add 36 = .ok (.aload_n 0, 1) := by decide +kernel
theorem d_M_add_37 : decode b_M_add 37 = .ok (.dup, 1) := by decide +kernel
theorem d_M_add_38 : decode b_M_add 38 = .ok (.getfield 72, 3) := by decide +kernel
theorem d_M_add_41 : decode b_M_add 41 = .ok (.iconst 1, 1) := by decide +kernel
theorem d_M_add_42 : decode b_M_add 42 = .ok (.iadd, 1) := by decide +kernel
theorem d_M_add_43 : decode b_M_add 43 = .ok (.putfield 72, 3) := by decide +kernel
theorem d_M_add_46 : decode b_M_add 46 = .ok (.return_, 1) := by decide +kernel
theorem d_M_tell_0 : decode b_M_tell 0 = .ok (.aload_n 0, 1) := by decide +kernel
theorem d_M_tell_1 : decode b_M_tell 1 = .ok (.iload_n 1, 1) := by decide +kernel
theorem d_M_tell_2 : decode b_M_tell 2 = .ok (.iload_n 2, 1) := by decide +kernel
theorem d_M_tell_3 : decode b_M_tell 3 = .ok (.iload_n 3, 1) := by decide +kernel
theorem d_M_tell_4 : decode b_M_tell 4 = .ok (.invokevirtual 79, 3) := by decide +kernel
theorem d_M_tell_7 : decode b_M_tell 7 = .ok (.aload_n 0, 1) := by decide +kernel
theorem d_M_tell_8 : decode b_M_tell 8 = .ok (.invokevirtual 83, 3) := by decide +kernel
theorem d_M_tell_11 : decode b_M_tell 11 = .ok (.istore 5, 2) := by decide +kernel
theorem d_M_tell_13 : decode b_M_tell 13 = .ok (.iload 5, 2) := by decide +kernel
theorem d_M_tell_15 : decode b_M_tell 15 = .ok (.iload 4, 2) := by decide +kernel
theorem d_M_tell_17 : decode b_M_tell 17 = .ok (.if_icmp .eq 23, 3) := by decide +kernel
theorem d_M_tell_20 : decode b_M_tell 20 = .ok (.aload_n 0, 1) := by decide +kernel
theorem d_M_tell_21 : decode b_M_tell 21 = .ok (.iconst 5, 1) := by decide +kernel
theorem d_M_tell_22 : decode b_M_tell 22 = .ok (.iload 5, 2) := by decide +kernel
theorem d_M_tell_24 : decode b_M_tell 24 = .ok (.iconst (-1), 1) := by decide +kernel
theorem d_M_tell_25 : decode b_M_tell 25 = .ok (.if_icmp .ne 8, 3) := by decide +kernel
theorem d_M_tell_28 : decode b_M_tell 28 = .ok (.bipush 8, 2) := by decide +kernel
theorem d_M_tell_30 : decode b_M_tell 30 = .ok (.goto 5, 3) := by decide +kernel
theorem d_M_tell_33 : decode b_M_tell 33 = .ok (.iload 5, 2) := by decide +kernel
theorem d_M_tell_35 : decode b_M_tell 35 = .ok (.bipush 15, 2) := by decide +kernel
theorem d_M_tell_37 : decode b_M_tell 37 = .ok (.invokevirtual 79, 3) := by decide +kernel
theorem d_M_tell_40 : decode b_M_tell 40 = .ok (.return_, 1) := by decide +kernel
theorem d_M_release_0 : decode b_M_release 0 = .ok (.aload_n 0, 1) := by decide +kernel
theorem d_M_release_1 : decode b_M_release 1 = .ok (.aload_n 0, 1) := by decide +kernel
theorem d_M_release_2 : decode b_M_release 2 = .ok (.getfield 54, 3) := by decide +kernel
theorem d_M_release_5 : decode b_M_release 5 = .ok (.ifCond .eq 11, 3) := by decide +kernel
theorem d_M_release_8 : decode b_M_release 8 = .ok (.aload_n 0, 1) := by decide +kernel
theorem d_M_release_9 : decode b_M_release 9 = .ok (.iload_n 1, 1) := by decide +kernel
theorem d_M_release_10 : decode b_M_release 10 = .ok (.invokevirtual 87, 3) := by decide +kernel
theorem d_M_release_13 : decode b_M_release 13 = .ok (.ifCond .eq 7, 3) := by decide +kernel
theorem d_M_release_16 : decode b_M_release 16 = .ok (.iconst 1, 1) := by decide +kernel
theorem d_M_release_17 : decode b_M_release 17 = .ok (.goto 4, 3) := by decide +kernel
theorem d_M_release_20 : decode b_M_release 20 = .ok (.iconst 0, 1) := by decide +kernel
theorem d_M_release_21 : decode b_M_release 21 = .ok (.aload_n 0, 1) := by decide +kernel
theorem d_M_release_22 : decode b_M_release 22 = .ok (.iload_n 1, 1) := by decide +kernel
theorem d_M_release_23 : decode b_M_release 23 = .ok (.invokevirtual 58, 3) := by decide +kernel
theorem d_M_release_26 : decode b_M_release 26 = .ok (.ifCond .ne 7, 3) := by decide +kernel
theorem d_M_release_29 : decode b_M_release 29 = .ok (.iconst 1, 1) := by decide +kernel
theorem d_M_release_30 : decode b_M_release 30 = .ok (.goto 4, 3) := by decide +kernel
theorem d_M_release_33 : decode b_M_release 33 = .ok (.iconst 0, 1) := by decide +kernel
theorem d_M_release_34 : decode b_M_release 34 = .ok (.invokevirtual 61, 3) := by decide +kernel
theorem d_M_release_37 : decode b_M_release 37 = .ok (.ifCond .eq 5, 3) := by decide +kernel
theorem d_M_release_40 : decode b_M_release 40 = .ok (.iconst 0, 1) := by decide +kernel
theorem d_M_release_41 : decode b_M_release 41 = .ok (.ireturn, 1) := by decide +kernel
theorem d_M_release_42 : decode b_M_release 42 = .ok (.aload_n 0, 1) := by decide +kernel
theorem d_M_release_43 : decode b_M_release 43 = .ok (.invokevirtual 83, 3) := by decide +kernel
theorem d_M_release_46 : decode b_M_release 46 = .ok (.istore_n 2, 1) := by decide +kernel
theorem d_M_release_47 : decode b_M_release 47 = .ok (.aload_n 0, 1) := by decide +kernel
theorem d_M_release_48 : decode b_M_release 48 = .ok (.dup, 1) := by decide +kernel
theorem d_M_release_49 : decode b_M_release 49 = .ok (.getfield 90, 3) := by decide +kernel
theorem d_M_release_52 : decode b_M_release 52 = .ok (.iconst 1, 1) := by decide +kernel
theorem d_M_release_53 : decode b_M_release 53 = .ok (.iadd, 1) := by decide +kernel
theorem d_M_release_54 : decode b_M_release 54 = .ok (.putfield 90, 3) := by decide +kernel
theorem d_M_release_57 : decode b_M_release 57 = .ok (.aload_n 0, 1) := by decide +kernel
theorem d_M_release_58 : decode b_M_release 58 = .ok (.getfield 19, 3) := by decide +kernel
theorem d_M_release_61 : decode b_M_release 61 = .ok (.iload_n 1, 1) := by decide +kernel
theorem d_M_release_62 : decode b_M_release 62 = .ok (.aload_n 0, 1) := by decide +kernel
theorem d_M_release_63 : decode b_M_release 63 = .ok (.getfield 90, 3) := by decide +kernel
theorem d_M_release_66 : decode b_M_release 66 = .ok (.iastore, 1) := by decide +kernel
theorem d_M_release_67 : decode b_M_release 67 = .ok (.aload_n 0, 1) := by decide +kernel
theorem d_M_release_68 : decode b_M_release 68 = .ok (.getfield 22, 3) := by decide +kernel
theorem d_M_release_71 : decode b_M_release 71 = .ok (.iload_n 1, 1) := by decide +kernel
theorem d_M_release_72 : decode b_M_release 72 = .ok (.aload_n 0, 1) := by decide +kernel
theorem d_M_release_73 : decode b_M_release 73 = .ok (.getfield 7, 3) := by decide +kernel
theorem d_M_release_76 : decode b_M_release 76 = .ok (.iload_n 1, 1) := by decide +kernel
theorem d_M_release_77 : decode b_M_release 77 = .ok (.iaload, 1) := by decide +kernel
theorem d_M_release_78 : decode b_M_release 78 = .ok (.iastore, 1) := by decide +kernel
theorem d_M_release_79 : decode b_M_release 79 = .ok (.aload_n 0, 1) := by decide +kernel
theorem d_M_release_80 : decode b_M_release 80 = .ok (.getfield 25, 3) := by decide +kernel
theorem d_M_release_83 : decode b_M_release 83 = .ok (.iload_n 1, 1) := by decide +kernel
theorem d_M_release_84 : decode b_M_release 84 = .ok (.iconst 0, 1) := by decide +kernel
theorem d_M_release_85 : decode b_M_release 85 = .ok (.iastore, 1) := by decide +kernel
theorem d_M_release_86 : decode b_M_release 86 = .ok (.aload_n 0, 1) := by decide +kernel
theorem d_M_release_87 : decode b_M_release 87 = .ok (.getfield 28, 3) := by decide +kernel
theorem d_M_release_90 : decode b_M_release 90 = .ok (.iload_n 1, 1) := by decide +kernel
theorem d_M_release_91 : decode b_M_release 91 = .ok (.iconst 0, 1) := by decide +kernel
theorem d_M_release_92 : decode b_M_release 92 = .ok (.iastore, 1) := by decide +kernel
theorem d_M_release_93 : decode b_M_release 93 = .ok (.aload_n 0, 1) := by decide +kernel
theorem d_M_release_94 : decode b_M_release 94 = .ok (.iconst 1, 1) := by decide +kernel
theorem d_M_release_95 : decode b_M_release 95 = .ok (.iload_n 1, 1) := by decide +kernel
theorem d_M_release_96 : decode b_M_release 96 = .ok (.bipush 15, 2) := by decide +kernel
theorem d_M_release_98 : decode b_M_release 98 = .ok (.iload_n 2, 1) := by decide +kernel
theorem d_M_release_99 : decode b_M_release 99 = .ok (.invokevirtual 93, 3) := by decide +kernel
theorem d_M_release_102 : decode b_M_release 102 = .ok (.aload_n 0, 1) := by decide +kernel
theorem d_M_release_103 : decode b_M_release 103 = .ok (.getfield 90, 3) := by decide +kernel
theorem d_M_release_106 : decode b_M_release 106 = .ok (.ireturn, 1) := by decide +kernel
theorem d_M_top_0 : decode b_M_top 0 = .ok (.iconst 0, 1) := by decide +kernel
theorem d_M_top_1 : decode b_M_top 1 = .ok (.istore_n 2, 1) := by decide +kernel
theorem d_M_top_2 : decode b_M_top 2 = .ok (.iconst 0, 1) := by decide +kernel
theorem d_M_top_3 : decode b_M_top 3 = .ok (.istore_n 3, 1) := by decide +kernel
theorem d_M_top_4 : decode b_M_top 4 = .ok (.iload_n 3, 1) := by decide +kernel
theorem d_M_top_5 : decode b_M_top 5 = .ok (.bipush 8, 2) := by decide +kernel
theorem d_M_top_7 : decode b_M_top 7 = .ok (.if_icmp .ge 44, 3) := by decide +kernel
theorem d_M_top_10 : decode b_M_top 10 = .ok (.aload_n 0, 1) := by decide +kernel
theorem d_M_top_11 : decode b_M_top 11 = .ok (.getfield 31, 3) := by decide +kernel
theorem d_M_top_14 : decode b_M_top 14 = .ok (.bipush 6, 2) := by decide +kernel
theorem d_M_top_16 : decode b_M_top 16 = .ok (.iload_n 3, 1) := by decide +kernel
theorem d_M_top_17 : decode b_M_top 17 = .ok (.imul, 1) := by decide +kernel
theorem d_M_top_18 : decode b_M_top 18 = .ok (.iload_n 1, 1) := by decide +kernel
theorem d_M_top_19 : decode b_M_top 19 = .ok (.iadd, 1) := by decide +kernel
theorem d_M_top_20 : decode b_M_top 20 = .ok (.iaload, 1) := by decide +kernel
theorem d_M_top_21 : decode b_M_top 21 = .ok (.ifCond .le 22, 3) := by decide +kernel
theorem d_M_top_24 : decode b_M_top 24 = .ok (.aload_n 0, 1) := by decide +kernel
theorem d_M_top_25 : decode b_M_top 25 = .ok (.getfield 7, 3) := by decide +kernel
theorem d_M_top_28 : decode b_M_top 28 = .ok (.iload_n 3, 1) := by decide +kernel
theorem d_M_top_29 : decode b_M_top 29 = .ok (.iaload, 1) := by decide +kernel
theorem d_M_top_30 : decode b_M_top 30 = .ok (.iload_n 2, 1) := by decide +kernel
theorem d_M_top_31 : decode b_M_top 31 = .ok (.if_icmp .le 12, 3) := by decide +kernel
theorem d_M_top_34 : decode b_M_top 34 = .ok (.aload_n 0, 1) := by decide +kernel
theorem d_M_top_35 : decode b_M_top 35 = .ok (.getfield 7, 3) := by decide +kernel
theorem d_M_top_38 : decode b_M_top 38 = .ok (.iload_n 3, 1) := by decide +kernel
theorem d_M_top_39 : decode b_M_top 39 = .ok (.iaload, 1) := by decide +kernel
theorem d_M_top_40 : decode b_M_top 40 = .ok (.goto 4, 3) := by decide +kernel
theorem d_M_top_43 : decode b_M_top 43 = .ok (.iload_n 2, 1) := by decide +kernel
theorem d_M_top_44 : decode b_M_top 44 = .ok (.istore_n 2, 1) := by decide +kernel
theorem d_M_top_45 : decode b_M_top 45 = .ok (.iinc 3 1, 3) := by decide +kernel
theorem d_M_top_48 : decode b_M_top 48 = .ok (.goto (-44), 3) := by decide +kernel
theorem d_M_top_51 : decode b_M_top 51 = .ok (.iload_n 2, 1) := by decide +kernel
theorem d_M_top_52 : decode b_M_top 52 = .ok (.ireturn, 1) := by decide +kernel
theorem d_M_take_0 : decode b_M_take 0 = .ok (.aload_n 0, 1) := by decide +kernel
theorem d_M_take_1 : decode b_M_take 1 = .ok (.invokevirtual 83, 3) := by decide +kernel
theorem d_M_take_4 : decode b_M_take 4 = .ok (.istore_n 2, 1) := by decide +kernel
theorem d_M_take_5 : decode b_M_take 5 = .ok (.iload_n 1, 1) := by decide +kernel
theorem d_M_take_6 : decode b_M_take 6 = .ok (.invokestatic 65, 3) := by decide +kernel
theorem d_M_take_9 : decode b_M_take 9 = .ok (.ifCond .eq 17, 3) := by decide +kernel
theorem d_M_take_12 : decode b_M_take 12 = .ok (.aload_n 0, 1) := by decide +kernel
theorem d_M_take_13 : decode b_M_take 13 = .ok (.getfield 34, 3) := by decide +kernel
theorem d_M_take_16 : decode b_M_take 16 = .ok (.iload_n 1, 1) := by decide +kernel
theorem d_M_take_17 : decode b_M_take 17 = .ok (.iaload, 1) := by decide +kernel
theorem d_M_take_18 : decode b_M_take 18 = .ok (.iconst (-1), 1) := by decide +kernel
theorem d_M_take_19 : decode b_M_take 19 = .ok (.if_icmp .eq 7, 3) := by decide +kernel
theorem d_M_take_22 : decode b_M_take 22 = .ok (.iconst 1, 1) := by decide +kernel
theorem d_M_take_23 : decode b_M_take 23 = .ok (.goto 4, 3) := by decide +kernel
theorem d_M_take_26 : decode b_M_take 26 = .ok (.iconst 0, 1) := by decide +kernel
theorem d_M_take_27 : decode b_M_take 27 = .ok (.istore_n 3, 1) := by decide +kernel
theorem d_M_take_28 : decode b_M_take 28 = .ok (.iload_n 1, 1) := by decide +kernel
theorem d_M_take_29 : decode b_M_take 29 = .ok (.invokestatic 65, 3) := by decide +kernel
theorem d_M_take_32 : decode b_M_take 32 = .ok (.ifCond .eq 26, 3) := by decide +kernel
theorem d_M_take_35 : decode b_M_take 35 = .ok (.iload_n 2, 1) := by decide +kernel
theorem d_M_take_36 : decode b_M_take 36 = .ok (.iconst (-1), 1) := by decide +kernel
theorem d_M_take_37 : decode b_M_take 37 = .ok (.if_icmp .eq 21, 3) := by decide +kernel
theorem d_M_take_40 : decode b_M_take 40 = .ok (.aload_n 0, 1) := by decide +kernel
theorem d_M_take_41 : decode b_M_take 41 = .ok (.getfield 31, 3) := by decide +kernel
theorem d_M_take_44 : decode b_M_take 44 = .ok (.bipush 6, 2) := by decide +kernel
theorem d_M_take_46 : decode b_M_take 46 = .ok (.iload_n 2, 1) := by decide +kernel
theorem d_M_take_47 : decode b_M_take 47 = .ok (.imul, 1) := by decide +kernel
theorem d_M_take_48 : decode b_M_take 48 = .ok (.iload_n 1, 1) := by decide +kernel
theorem d_M_take_49 : decode b_M_take 49 = .ok (.iadd, 1) := by decide +kernel
theorem d_M_take_50 : decode b_M_take 50 = .ok (.iaload, 1) := by decide +kernel
theorem d_M_take_51 : decode b_M_take 51 = .ok (.ifCond .le 7, 3) := by decide +kernel
theorem d_M_take_54 : decode b_M_take 54 = .ok (.iconst 1, 1) := by decide +kernel
theorem d_M_take_55 : decode b_M_take 55 = .ok (.goto 4, 3) := by decide +kernel
theorem d_M_take_58 : decode b_M_take 58 = .ok (.iconst 0, 1) := by decide +kernel
theorem d_M_take_59 : decode b_M_take 59 = .ok (.istore 4, 2) := by decide +kernel
theorem d_M_take_61 : decode b_M_take 61 = .ok (.aload_n 0, 1) := by decide +kernel
theorem d_M_take_62 : decode b_M_take 62 = .ok (.aload_n 0, 1) := by decide +kernel
theorem d_M_take_63 : decode b_M_take 63 = .ok (.getfield 54, 3) := by decide +kernel
theorem d_M_take_66 : decode b_M_take 66 = .ok (.ifCond .eq 12, 3) := by decide +kernel
theorem d_M_take_69 : decode b_M_take 69 = .ok (.iload_n 2, 1) := by decide +kernel
theorem d_M_take_70 : decode b_M_take 70 = .ok (.iconst (-1), 1) := by decide +kernel
theorem d_M_take_71 : decode b_M_take 71 = .ok (.if_icmp .eq 7, 3) := by decide +kernel
theorem d_M_take_74 : decode b_M_take 74 = .ok (.iload_n 3, 1) := by decide +kernel
theorem d_M_take_75 : decode b_M_take 75 = .ok (.ifCond .eq 7, 3) := by decide +kernel
theorem d_M_take_78 : decode b_M_take 78 = .ok (.iconst 1, 1) := by decide +kernel
theorem d_M_take_79 : decode b_M_take 79 = .ok (.goto 4, 3) := by decide +kernel
theorem d_M_take_82 : decode b_M_take 82 = .ok (.iconst 0, 1) := by decide +kernel
theorem d_M_take_83 : decode b_M_take 83 = .ok (.iload 4, 2) := by decide +kernel
theorem d_M_take_85 : decode b_M_take 85 = .ok (.ifCond .ne 7, 3) := by decide +kernel
theorem d_M_take_88 : decode b_M_take 88 = .ok (.iconst 1, 1) := by decide +kernel
theorem d_M_take_89 : decode b_M_take 89 = .ok (.goto 4, 3) := by decide +kernel
theorem d_M_take_92 : decode b_M_take 92 = .ok (.iconst 0, 1) := by decide +kernel
theorem d_M_take_93 : decode b_M_take 93 = .ok (.invokevirtual 61, 3) := by decide +kernel
theorem d_M_take_96 : decode b_M_take 96 = .ok (.ifCond .eq 5, 3) := by decide +kernel
theorem d_M_take_99 : decode b_M_take 99 = .ok (.iconst 0, 1) := by decide +kernel
theorem d_M_take_100 : decode b_M_take 100 = .ok (.ireturn, 1) := by decide +kernel
theorem d_M_take_101 : decode b_M_take 101 = .ok (.aload_n 0, 1) := by decide +kernel
theorem d_M_take_102 : decode b_M_take 102 = .ok (.dup, 1) := by decide +kernel
theorem d_M_take_103 : decode b_M_take 103 = .ok (.getfield 97, 3) := by decide +kernel
theorem d_M_take_106 : decode b_M_take 106 = .ok (.iconst 1, 1) := by decide +kernel
theorem d_M_take_107 : decode b_M_take 107 = .ok (.iadd, 1) := by decide +kernel
theorem d_M_take_108 : decode b_M_take 108 = .ok (.putfield 97, 3) := by decide +kernel
theorem d_M_take_111 : decode b_M_take 111 = .ok (.aload_n 0, 1) := by decide +kernel
theorem d_M_take_112 : decode b_M_take 112 = .ok (.getfield 40, 3) := by decide +kernel
theorem d_M_take_115 : decode b_M_take 115 = .ok (.iload_n 1, 1) := by decide +kernel
theorem d_M_take_116 : decode b_M_take 116 = .ok (.aload_n 0, 1) := by decide +kernel
theorem d_M_take_117 : decode b_M_take 117 = .ok (.getfield 97, 3) := by decide +kernel
theorem d_M_take_120 : decode b_M_take 120 = .ok (.iastore, 1) := by decide +kernel
theorem d_M_take_121 : decode b_M_take 121 = .ok (.aload_n 0, 1) := by decide +kernel
theorem d_M_take_122 : decode b_M_take 122 = .ok (.getfield 34, 3) := by decide +kernel
theorem d_M_take_125 : decode b_M_take 125 = .ok (.iload_n 1, 1) := by decide +kernel
theorem d_M_take_126 : decode b_M_take 126 = .ok (.iload_n 2, 1) := by decide +kernel
theorem d_M_take_127 : decode b_M_take 127 = .ok (.iastore, 1) := by decide +kernel
theorem d_M_take_128 : decode b_M_take 128 = .ok (.aload_n 0, 1) := by decide +kernel
theorem d_M_take_129 : decode b_M_take 129 = .ok (.getfield 37, 3) := by decide +kernel
theorem d_M_take_132 : decode b_M_take 132 = .ok (.iload_n 1, 1) := by decide +kernel
theorem d_M_take_133 : decode b_M_take 133 = .ok (.aload_n 0, 1) := by decide +kernel
theorem d_M_take_134 : decode b_M_take 134 = .ok (.getfield 22, 3) := by decide +kernel
theorem d_M_take_137 : decode b_M_take 137 = .ok (.iload_n 2, 1) := by decide +kernel
theorem d_M_take_138 : decode b_M_take 138 = .ok (.iaload, 1) := by decide +kernel
theorem d_M_take_139 : decode b_M_take 139 = .ok (.iastore, 1) := by decide +kernel
theorem d_M_take_140 : decode b_M_take 140 = .ok (.aload_n 0, 1) := by decide +kernel
theorem d_M_take_141 : decode b_M_take 141 = .ok (.iload_n 1, 1) := by decide +kernel
theorem d_M_take_142 : decode b_M_take 142 = .ok (.invokevirtual 100, 3) := by decide +kernel
theorem d_M_take_145 : decode b_M_take 145 = .ok (.istore 5, 2) := by decide +kernel
theorem d_M_take_147 : decode b_M_take 147 = .ok (.aload_n 0, 1) := by decide +kernel
theorem d_M_take_148 : decode b_M_take 148 = .ok (.getfield 22, 3) := by decide +kernel
theorem d_M_take_151 : decode b_M_take 151 = .ok (.iload_n 2, 1) := by decide +kernel
theorem d_M_take_152 : decode b_M_take 152 = .ok (.iload 5, 2) := by decide +kernel
theorem d_M_take_154 : decode b_M_take 154 = .ok (.aload_n 0, 1) := by decide +kernel
theorem d_M_take_155 : decode b_M_take 155 = .ok (.getfield 22, 3) := by decide +kernel
theorem d_M_take_158 : decode b_M_take 158 = .ok (.iload_n 2, 1) := by decide +kernel
theorem d_M_take_159 : decode b_M_take 159 = .ok (.iaload, 1) := by decide +kernel
theorem d_M_take_160 : decode b_M_take 160 = .ok (.if_icmp .le 8, 3) := by decide +kernel
theorem d_M_take_163 : decode b_M_take 163 = .ok (.iload 5, 2) := by decide +kernel
theorem d_M_take_165 : decode b_M_take 165 = .ok (.goto 9, 3) := by decide +kernel
theorem d_M_take_168 : decode b_M_take 168 = .ok (.aload_n 0, 1) := by decide +kernel
theorem d_M_take_169 : decode b_M_take 169 = .ok (.getfield 22, 3) := by decide +kernel
theorem d_M_take_172 : decode b_M_take 172 = .ok (.iload_n 2, 1) := by decide +kernel
theorem d_M_take_173 : decode b_M_take 173 = .ok (.iaload, 1) := by decide +kernel
theorem d_M_take_174 : decode b_M_take 174 = .ok (.iastore, 1) := by decide +kernel
theorem d_M_take_175 : decode b_M_take 175 = .ok (.aload_n 0, 1) := by decide +kernel
theorem d_M_take_176 : decode b_M_take 176 = .ok (.iconst 2, 1) := by decide +kernel
theorem d_M_take_177 : decode b_M_take 177 = .ok (.iload_n 2, 1) := by decide +kernel
theorem d_M_take_178 : decode b_M_take 178 = .ok (.iload_n 1, 1) := by decide +kernel
theorem d_M_take_179 : decode b_M_take 179 = .ok (.iload_n 2, 1) := by decide +kernel
theorem d_M_take_180 : decode b_M_take 180 = .ok (.invokevirtual 93, 3) := by decide +kernel
theorem d_M_take_183 : decode b_M_take 183 = .ok (.aload_n 0, 1) := by decide +kernel
theorem d_M_take_184 : decode b_M_take 184 = .ok (.getfield 22, 3) := by decide +kernel
theorem d_M_take_187 : decode b_M_take 187 = .ok (.iload_n 2, 1) := by decide +kernel
theorem d_M_take_188 : decode b_M_take 188 = .ok (.iaload, 1) := by decide +kernel
theorem d_M_take_189 : decode b_M_take 189 = .ok (.ireturn, 1) := by decide +kernel
theorem d_M_latest_0 : decode b_M_latest 0 = .ok (.iconst (-1), 1) := by decide +kernel
theorem d_M_latest_1 : decode b_M_latest 1 = .ok (.istore_n 2, 1) := by decide +kernel
theorem d_M_latest_2 : decode b_M_latest 2 = .ok (.iconst 0, 1) := by decide +kernel
theorem d_M_latest_3 : decode b_M_latest 3 = .ok (.istore_n 3, 1) := by decide +kernel
theorem d_M_latest_4 : decode b_M_latest 4 = .ok (.iload_n 3, 1) := by decide +kernel
theorem d_M_latest_5 : decode b_M_latest 5 = .ok (.bipush 6, 2) := by decide +kernel
theorem d_M_latest_7 : decode b_M_latest 7 = .ok (.if_icmp .ge 45, 3) := by decide +kernel
theorem d_M_latest_10 : decode b_M_latest 10 = .ok (.aload_n 0, 1) := by decide +kernel
theorem d_M_latest_11 : decode b_M_latest 11 = .ok (.getfield 34, 3) := by decide +kernel
theorem d_M_latest_14 : decode b_M_latest 14 = .ok (.iload_n 3, 1) := by decide +kernel
theorem d_M_latest_15 : decode b_M_latest 15 = .ok (.iaload, 1) := by decide +kernel
theorem d_M_latest_16 : decode b_M_latest 16 = .ok (.iload_n 1, 1) := by decide +kernel
theorem d_M_latest_17 : decode b_M_latest 17 = .ok (.if_icmp .ne 27, 3) := by decide +kernel
theorem d_M_latest_20 : decode b_M_latest 20 = .ok (.iload_n 2, 1) := by decide +kernel
theorem d_M_latest_21 : decode b_M_latest 21 = .ok (.iconst (-1), 1) := by decide +kernel
theorem d_M_latest_22 : decode b_M_latest 22 = .ok (.if_icmp .eq 18, 3) := by decide +kernel
theorem d_M_latest_25 : decode b_M_latest 25 = .ok (.aload_n 0, 1) := by decide +kernel
theorem d_M_latest_26 : decode b_M_latest 26 = .ok (.getfield 40, 3) := by decide +kernel
theorem d_M_latest_29 : decode b_M_latest 29 = .ok (.iload_n 3, 1) := by decide +kernel
theorem d_M_latest_30 : decode b_M_latest 30 = .ok (.iaload, 1) := by decide +kernel
theorem d_M_latest_31 : decode b_M_latest 31 = .ok (.aload_n 0, 1) := by decide +kernel
theorem d_M_latest_32 : decode b_M_latest 32 = .ok (.getfield 40, 3) := by decide +kernel
theorem d_M_latest_35 : decode b_M_latest 35 = .ok (.iload_n 2, 1) := by decide +kernel
theorem d_M_latest_36 : decode b_M_latest 36 = .ok (.iaload, 1) := by decide +kernel
theorem d_M_latest_37 : decode b_M_latest 37 = .ok (.if_icmp .le 7, 3) := by decide +kernel
theorem d_M_latest_40 : decode b_M_latest 40 = .ok (.iload_n 3, 1) := by decide +kernel
theorem d_M_latest_41 : decode b_M_latest 41 = .ok (.goto 4, 3) := by decide +kernel
theorem d_M_latest_44 : decode b_M_latest 44 = .ok (.iload_n 2, 1) := by decide +kernel
theorem d_M_latest_45 : decode b_M_latest 45 = .ok (.istore_n 2, 1) := by decide +kernel
theorem d_M_latest_46 : decode b_M_latest 46 = .ok (.iinc 3 1, 3) := by decide +kernel
theorem d_M_latest_49 : decode b_M_latest 49 = .ok (.goto (-45), 3) := by decide +kernel
theorem d_M_latest_52 : decode b_M_latest 52 = .ok (.iload_n 2, 1) := by decide +kernel
theorem d_M_latest_53 : decode b_M_latest 53 = .ok (.ireturn, 1) := by decide +kernel
theorem d_M_give_0 : decode b_M_give 0 = .ok (.aload_n 0, 1) := by decide +kernel
theorem d_M_give_1 : decode b_M_give 1 = .ok (.invokevirtual 83, 3) := by decide +kernel
theorem d_M_give_4 : decode b_M_give 4 = .ok (.istore_n 2, 1) := by decide +kernel
theorem d_M_give_5 : decode b_M_give 5 = .ok (.aload_n 0, 1) := by decide +kernel
theorem d_M_give_6 : decode b_M_give 6 = .ok (.iload_n 2, 1) := by decide +kernel
theorem d_M_give_7 : decode b_M_give 7 = .ok (.iconst (-1), 1) := by decide +kernel
theorem d_M_give_8 : decode b_M_give 8 = .ok (.if_icmp .ne 7, 3) := by decide +kernel
theorem d_M_give_11 : decode b_M_give 11 = .ok (.iconst 1, 1) := by decide +kernel
theorem d_M_give_12 : decode b_M_give 12 = .ok (.goto 4, 3) := by decide +kernel
theorem d_M_give_15 : decode b_M_give 15 = .ok (.iconst 0, 1) := by decide +kernel
theorem d_M_give_16 : decode b_M_give 16 = .ok (.iload_n 2, 1) := by decide +kernel
theorem d_M_give_17 : decode b_M_give 17 = .ok (.iconst (-1), 1) := by decide +kernel
theorem d_M_give_18 : decode b_M_give 18 = .ok (.if_icmp .eq 21, 3) := by decide +kernel
theorem d_M_give_21 : decode b_M_give 21 = .ok (.aload_n 0, 1) := by decide +kernel
theorem d_M_give_22 : decode b_M_give 22 = .ok (.iload_n 2, 1) := by decide +kernel
theorem d_M_give_23 : decode b_M_give 23 = .ok (.invokevirtual 104, 3) := by decide +kernel
theorem d_M_give_26 : decode b_M_give 26 = .ok (.iconst (-1), 1) := by decide +kernel
theorem d_M_give_27 : decode b_M_give 27 = .ok (.if_icmp .eq 12, 3) := by decide +kernel
theorem d_M_give_30 : decode b_M_give 30 = .ok (.aload_n 0, 1) := by decide +kernel
theorem d_M_give_31 : decode b_M_give 31 = .ok (.iload_n 2, 1) := by decide +kernel
theorem d_M_give_32 : decode b_M_give 32 = .ok (.invokevirtual 104, 3) := by decide +kernel
theorem d_M_give_35 : decode b_M_give 35 = .ok (.iload_n 1, 1) := by decide +kernel
theorem d_M_give_36 : decode b_M_give 36 = .ok (.if_icmp .eq 7, 3) := by decide +kernel
theorem d_M_give_39 : decode b_M_give 39 = .ok (.iconst 1, 1) := by decide +kernel
theorem d_M_give_40 : decode b_M_give 40 = .ok (.goto 4, 3) := by decide +kernel
theorem d_M_give_43 : decode b_M_give 43 = .ok (.iconst 0, 1) := by decide +kernel
theorem d_M_give_44 : decode b_M_give 44 = .ok (.invokevirtual 61, 3) := by decide +kernel
theorem d_M_give_47 : decode b_M_give 47 = .ok (.ifCond .eq 5, 3) := by decide +kernel
theorem d_M_give_50 : decode b_M_give 50 = .ok (.iconst 0, 1) := by decide +kernel
theorem d_M_give_51 : decode b_M_give 51 = .ok (.ireturn, 1) := by decide +kernel
theorem d_M_give_52 : decode b_M_give 52 = .ok (.aload_n 0, 1) := by decide +kernel
theorem d_M_give_53 : decode b_M_give 53 = .ok (.getfield 34, 3) := by decide +kernel
theorem d_M_give_56 : decode b_M_give 56 = .ok (.iload_n 1, 1) := by decide +kernel
theorem d_M_give_57 : decode b_M_give 57 = .ok (.iconst (-1), 1) := by decide +kernel
theorem d_M_give_58 : decode b_M_give 58 = .ok (.iastore, 1) := by decide +kernel
theorem d_M_give_59 : decode b_M_give 59 = .ok (.aload_n 0, 1) := by decide +kernel
theorem d_M_give_60 : decode b_M_give 60 = .ok (.getfield 22, 3) := by decide +kernel
theorem d_M_give_63 : decode b_M_give 63 = .ok (.iload_n 2, 1) := by decide +kernel
theorem d_M_give_64 : decode b_M_give 64 = .ok (.aload_n 0, 1) := by decide +kernel
theorem d_M_give_65 : decode b_M_give 65 = .ok (.getfield 37, 3) := by decide +kernel
theorem d_M_give_68 : decode b_M_give 68 = .ok (.iload_n 1, 1) := by decide +kernel
theorem d_M_give_69 : decode b_M_give 69 = .ok (.iaload, 1) := by decide +kernel
theorem d_M_give_70 : decode b_M_give 70 = .ok (.iastore, 1) := by decide +kernel
theorem d_M_give_71 : decode b_M_give 71 = .ok (.aload_n 0, 1) := by decide +kernel
theorem d_M_give_72 : decode b_M_give 72 = .ok (.iconst 3, 1) := by decide +kernel
theorem d_M_give_73 : decode b_M_give 73 = .ok (.iload_n 2, 1) := by decide +kernel
theorem d_M_give_74 : decode b_M_give 74 = .ok (.iload_n 1, 1) := by decide +kernel
theorem d_M_give_75 : decode b_M_give 75 = .ok (.iload_n 2, 1) := by decide +kernel
theorem d_M_give_76 : decode b_M_give 76 = .ok (.invokevirtual 93, 3) := by decide +kernel
theorem d_M_give_79 : decode b_M_give 79 = .ok (.aload_n 0, 1) := by decide +kernel
theorem d_M_give_80 : decode b_M_give 80 = .ok (.getfield 22, 3) := by decide +kernel
theorem d_M_give_83 : decode b_M_give 83 = .ok (.iload_n 2, 1) := by decide +kernel
theorem d_M_give_84 : decode b_M_give 84 = .ok (.iaload, 1) := by decide +kernel
theorem d_M_give_85 : decode b_M_give 85 = .ok (.ireturn, 1) := by decide +kernel
theorem d_M_finish_0 : decode b_M_finish 0 = .ok (.aload_n 0, 1) := by decide +kernel
theorem d_M_finish_1 : decode b_M_finish 1 = .ok (.invokevirtual 83, 3) := by decide +kernel
theorem d_M_finish_4 : decode b_M_finish 4 = .ok (.istore_n 1, 1) := by decide +kernel
theorem d_M_finish_5 : decode b_M_finish 5 = .ok (.aload_n 0, 1) := by decide +kernel
theorem d_M_finish_6 : decode b_M_finish 6 = .ok (.iload_n 1, 1) := by decide +kernel
theorem d_M_finish_7 : decode b_M_finish 7 = .ok (.iconst (-1), 1) := by decide +kernel
theorem d_M_finish_8 : decode b_M_finish 8 = .ok (.if_icmp .eq 12, 3) := by decide +kernel
theorem d_M_finish_11 : decode b_M_finish 11 = .ok (.aload_n 0, 1) := by decide +kernel
theorem d_M_finish_12 : decode b_M_finish 12 = .ok (.iload_n 1, 1) := by decide +kernel
theorem d_M_finish_13 : decode b_M_finish 13 = .ok (.invokevirtual 104, 3) := by decide +kernel
theorem d_M_finish_16 : decode b_M_finish 16 = .ok (.iconst (-1), 1) := by decide +kernel
theorem d_M_finish_17 : decode b_M_finish 17 = .ok (.if_icmp .eq 7, 3) := by decide +kernel
theorem d_M_finish_20 : decode b_M_finish 20 = .ok (.iconst 1, 1) := by decide +kernel
theorem d_M_finish_21 : decode b_M_finish 21 = .ok (.goto 4, 3) := by decide +kernel
theorem d_M_finish_24 : decode b_M_finish 24 = .ok (.iconst 0, 1) := by decide +kernel
theorem d_M_finish_25 : decode b_M_finish 25 = .ok (.iconst 0, 1) := by decide +kernel
theorem d_M_finish_26 : decode b_M_finish 26 = .ok (.invokevirtual 61, 3) := by decide +kernel
theorem d_M_finish_29 : decode b_M_finish 29 = .ok (.ifCond .eq 5, 3) := by decide +kernel
theorem d_M_finish_32 : decode b_M_finish 32 = .ok (.iconst 0, 1) := by decide +kernel
theorem d_M_finish_33 : decode b_M_finish 33 = .ok (.ireturn, 1) := by decide +kernel
theorem d_M_finish_34 : decode b_M_finish 34 = .ok (.aload_n 0, 1) := by decide +kernel
theorem d_M_finish_35 : decode b_M_finish 35 = .ok (.getfield 19, 3) := by decide +kernel
theorem d_M_finish_38 : decode b_M_finish 38 = .ok (.iload_n 1, 1) := by decide +kernel
theorem d_M_finish_39 : decode b_M_finish 39 = .ok (.iconst 0, 1) := by decide +kernel
theorem d_M_finish_40 : decode b_M_finish 40 = .ok (.iastore, 1) := by decide +kernel
theorem d_M_finish_41 : decode b_M_finish 41 = .ok (.aload_n 0, 1) := by decide +kernel
theorem d_M_finish_42 : decode b_M_finish 42 = .ok (.getfield 22, 3) := by decide +kernel
theorem d_M_finish_45 : decode b_M_finish 45 = .ok (.iload_n 1, 1) := by decide +kernel
theorem d_M_finish_46 : decode b_M_finish 46 = .ok (.aload_n 0, 1) := by decide +kernel
theorem d_M_finish_47 : decode b_M_finish 47 = .ok (.getfield 7, 3) := by decide +kernel
theorem d_M_finish_50 : decode b_M_finish 50 = .ok (.iload_n 1, 1) := by decide +kernel
theorem d_M_finish_51 : decode b_M_finish 51 = .ok (.iaload, 1) := by decide +kernel
theorem d_M_finish_52 : decode b_M_finish 52 = .ok (.iastore, 1) := by decide +kernel
theorem d_M_finish_53 : decode b_M_finish 53 = .ok (.aload_n 0, 1) := by decide +kernel
theorem d_M_finish_54 : decode b_M_finish 54 = .ok (.iconst 4, 1) := by decide +kernel
theorem d_M_finish_55 : decode b_M_finish 55 = .ok (.iload_n 1, 1) := by decide +kernel
theorem d_M_finish_56 : decode b_M_finish 56 = .ok (.bipush 15, 2) := by decide +kernel
theorem d_M_finish_58 : decode b_M_finish 58 = .ok (.iload_n 1, 1) := by decide +kernel
theorem d_M_finish_59 : decode b_M_finish 59 = .ok (.invokevirtual 93, 3) := by decide +kernel
theorem d_M_finish_62 : decode b_M_finish 62 = .ok (.aload_n 0, 1) := by decide +kernel
theorem d_M_finish_63 : decode b_M_finish 63 = .ok (.getfield 25, 3) := by decide +kernel
theorem d_M_finish_66 : decode b_M_finish 66 = .ok (.iload_n 1, 1) := by decide +kernel
theorem d_M_finish_67 : decode b_M_finish 67 = .ok (.iaload, 1) := by decide +kernel
theorem d_M_finish_68 : decode b_M_finish 68 = .ok (.ireturn, 1) := by decide +kernel
theorem d_M_pass_0 : decode b_M_pass 0 = .ok (.aload_n 0, 1) := by decide +kernel
theorem d_M_pass_1 : decode b_M_pass 1 = .ok (.iload_n 1, 1) := by decide +kernel
theorem d_M_pass_2 : decode b_M_pass 2 = .ok (.ifCond .lt 9, 3) := by decide +kernel
theorem d_M_pass_5 : decode b_M_pass 5 = .ok (.iload_n 1, 1) := by decide +kernel
theorem d_M_pass_6 : decode b_M_pass 6 = .ok (.bipush 100, 2) := by decide +kernel
theorem d_M_pass_8 : decode b_M_pass 8 = .ok (.if_icmp .le 7, 3) := by decide +kernel
theorem d_M_pass_11 : decode b_M_pass 11 = .ok (.iconst 1, 1) := by decide +kernel
theorem d_M_pass_12 : decode b_M_pass 12 = .ok (.goto 4, 3) := by decide +kernel
theorem d_M_pass_15 : decode b_M_pass 15 = .ok (.iconst 0, 1) := by decide +kernel
theorem d_M_pass_16 : decode b_M_pass 16 = .ok (.iconst 0, 1) := by decide +kernel
theorem d_M_pass_17 : decode b_M_pass 17 = .ok (.invokevirtual 61, 3) := by decide +kernel
theorem d_M_pass_20 : decode b_M_pass 20 = .ok (.ifCond .eq 5, 3) := by decide +kernel
theorem d_M_pass_23 : decode b_M_pass 23 = .ok (.iconst 0, 1) := by decide +kernel
theorem d_M_pass_24 : decode b_M_pass 24 = .ok (.ireturn, 1) := by decide +kernel
theorem d_M_pass_25 : decode b_M_pass 25 = .ok (.aload_n 0, 1) := by decide +kernel
theorem d_M_pass_26 : decode b_M_pass 26 = .ok (.invokevirtual 83, 3) := by decide +kernel
theorem d_M_pass_29 : decode b_M_pass 29 = .ok (.istore_n 2, 1) := by decide +kernel
theorem d_M_pass_30 : decode b_M_pass 30 = .ok (.aload_n 0, 1) := by decide +kernel
theorem d_M_pass_31 : decode b_M_pass 31 = .ok (.dup, 1) := by decide +kernel
theorem d_M_pass_32 : decode b_M_pass 32 = .ok (.getfield 75, 3) := by decide +kernel
theorem d_M_pass_35 : decode b_M_pass 35 = .ok (.iload_n 1, 1) := by decide +kernel
theorem d_M_pass_36 : decode b_M_pass 36 = .ok (.iadd, 1) := by decide +kernel
theorem d_M_pass_37 : decode b_M_pass 37 = .ok (.putfield 75, 3) := by decide +kernel
theorem d_M_pass_40 : decode b_M_pass 40 = .ok (.iconst 0, 1) := by decide +kernel
theorem d_M_pass_41 : decode b_M_pass 41 = .ok (.istore_n 3, 1) := by decide +kernel
theorem d_M_pass_42 : decode b_M_pass 42 = .ok (.iload_n 3, 1) := by decide +kernel
theorem d_M_pass_43 : decode b_M_pass 43 = .ok (.bipush 8, 2) := by decide +kernel
theorem d_M_pass_45 : decode b_M_pass 45 = .ok (.if_icmp .ge 71, 3) := by decide +kernel
theorem d_M_pass_48 : decode b_M_pass 48 = .ok (.iload_n 2, 1) := by decide +kernel
theorem d_M_pass_49 : decode b_M_pass 49 = .ok (.iconst (-1), 1) := by decide +kernel
theorem d_M_pass_50 : decode b_M_pass 50 = .ok (.if_icmp .eq 66, 3) := by decide +kernel
theorem d_M_pass_53 : decode b_M_pass 53 = .ok (.aload_n 0, 1) := by decide +kernel
theorem d_M_pass_54 : decode b_M_pass 54 = .ok (.getfield 25, 3) := by decide +kernel
theorem d_M_pass_57 : decode b_M_pass 57 = .ok (.iload_n 3, 1) := by decide +kernel
theorem d_M_pass_58 : decode b_M_pass 58 = .ok (.dup2, 1) := by decide +kernel
theorem d_M_pass_59 : decode b_M_pass 59 = .ok (.iaload, 1) := by decide +kernel
theorem d_M_pass_60 : decode b_M_pass 60 = .ok (.iload_n 3, 1) := by decide +kernel
theorem d_M_pass_61 : decode b_M_pass 61 = .ok (.iload_n 2, 1) := by decide +kernel
theorem d_M_pass_62 : decode b_M_pass 62 = .ok (.if_icmp .ne 7, 3) := by decide +kernel
theorem d_M_pass_65 : decode b_M_pass 65 = .ok (.iload_n 1, 1) := by decide +kernel
theorem d_M_pass_66 : decode b_M_pass 66 = .ok (.goto 4, 3) := by decide +kernel
theorem d_M_pass_69 : decode b_M_pass 69 = .ok (.iconst 0, 1) := by decide +kernel
theorem d_M_pass_70 : decode b_M_pass 70 = .ok (.iadd, 1) := by decide +kernel
theorem d_M_pass_71 : decode b_M_pass 71 = .ok (.iastore, 1) := by decide +kernel
theorem d_M_pass_72 : decode b_M_pass 72 = .ok (.aload_n 0, 1) := by decide +kernel
theorem d_M_pass_73 : decode b_M_pass 73 = .ok (.getfield 28, 3) := by decide +kernel
theorem d_M_pass_76 : decode b_M_pass 76 = .ok (.iload_n 3, 1) := by decide +kernel
theorem d_M_pass_77 : decode b_M_pass 77 = .ok (.dup2, 1) := by decide +kernel
theorem d_M_pass_78 : decode b_M_pass 78 = .ok (.iaload, 1) := by decide +kernel
theorem d_M_pass_79 : decode b_M_pass 79 = .ok (.aload_n 0, 1) := by decide +kernel
theorem d_M_pass_80 : decode b_M_pass 80 = .ok (.getfield 19, 3) := by decide +kernel
theorem d_M_pass_83 : decode b_M_pass 83 = .ok (.iload_n 3, 1) := by decide +kernel
theorem d_M_pass_84 : decode b_M_pass 84 = .ok (.iaload, 1) := by decide +kernel
theorem d_M_pass_85 : decode b_M_pass 85 = .ok (.ifCond .le 22, 3) := by decide +kernel
theorem d_M_pass_88 : decode b_M_pass 88 = .ok (.aload_n 0, 1) := by decide +kernel
theorem d_M_pass_89 : decode b_M_pass 89 = .ok (.getfield 7, 3) := by decide +kernel
theorem d_M_pass_92 : decode b_M_pass 92 = .ok (.iload_n 3, 1) := by decide +kernel
theorem d_M_pass_93 : decode b_M_pass 93 = .ok (.iaload, 1) := by decide +kernel
theorem d_M_pass_94 : decode b_M_pass 94 = .ok (.aload_n 0, 1) := by decide +kernel
theorem d_M_pass_95 : decode b_M_pass 95 = .ok (.getfield 7, 3) := by decide +kernel
theorem d_M_pass_98 : decode b_M_pass 98 = .ok (.iload_n 2, 1) := by decide +kernel
theorem d_M_pass_99 : decode b_M_pass 99 = .ok (.iaload, 1) := by decide +kernel
theorem d_M_pass_100 : decode b_M_pass 100 = .ok (.if_icmp .le 7, 3) := by decide +kernel
theorem d_M_pass_103 : decode b_M_pass 103 = .ok (.iload_n 1, 1) := by decide +kernel
theorem d_M_pass_104 : decode b_M_pass 104 = .ok (.goto 4, 3) := by decide +kernel
theorem d_M_pass_107 : decode b_M_pass 107 = .ok (.iconst 0, 1) := by decide +kernel
theorem d_M_pass_108 : decode b_M_pass 108 = .ok (.iadd, 1) := by decide +kernel
theorem d_M_pass_109 : decode b_M_pass 109 = .ok (.iastore, 1) := by decide +kernel
theorem d_M_pass_110 : decode b_M_pass 110 = .ok (.iinc 3 1, 3) := by decide +kernel
theorem d_M_pass_113 : decode b_M_pass 113 = .ok (.goto (-71), 3) := by decide +kernel
theorem d_M_pass_116 : decode b_M_pass 116 = .ok (.aload_n 0, 1) := by decide +kernel
theorem d_M_pass_117 : decode b_M_pass 117 = .ok (.getfield 75, 3) := by decide +kernel
theorem d_M_pass_120 : decode b_M_pass 120 = .ok (.ireturn, 1) := by decide +kernel
theorem d_M_running_0 : decode b_M_running 0 = .ok (.aload_n 0, 1) := by decide +kernel
theorem d_M_running_1 : decode b_M_running 1 = .ok (.iconst 0, 1) := by decide +kernel
theorem d_M_running_2 : decode b_M_running 2 = .ok (.putfield 46, 3) := by decide +kernel
theorem d_M_running_5 : decode b_M_running 5 = .ok (.aload_n 0, 1) := by decide +kernel
theorem d_M_running_6 : decode b_M_running 6 = .ok (.invokevirtual 83, 3) := by decide +kernel
theorem d_M_running_9 : decode b_M_running 9 = .ok (.ireturn, 1) := by decide +kernel
theorem d_M_priority_0 : decode b_M_priority 0 = .ok (.aload_n 0, 1) := by decide +kernel
theorem d_M_priority_1 : decode b_M_priority 1 = .ok (.iconst 0, 1) := by decide +kernel
theorem d_M_priority_2 : decode b_M_priority 2 = .ok (.putfield 46, 3) := by decide +kernel
theorem d_M_priority_5 : decode b_M_priority 5 = .ok (.aload_n 0, 1) := by decide +kernel
theorem d_M_priority_6 : decode b_M_priority 6 = .ok (.iload_n 1, 1) := by decide +kernel
theorem d_M_priority_7 : decode b_M_priority 7 = .ok (.invokevirtual 58, 3) := by decide +kernel
theorem d_M_priority_10 : decode b_M_priority 10 = .ok (.ifCond .eq 12, 3) := by decide +kernel
theorem d_M_priority_13 : decode b_M_priority 13 = .ok (.aload_n 0, 1) := by decide +kernel
theorem d_M_priority_14 : decode b_M_priority 14 = .ok (.getfield 22, 3) := by decide +kernel
theorem d_M_priority_17 : decode b_M_priority 17 = .ok (.iload_n 1, 1) := by decide +kernel
theorem d_M_priority_18 : decode b_M_priority 18 = .ok (.iaload, 1) := by decide +kernel
theorem d_M_priority_19 : decode b_M_priority 19 = .ok (.goto 4, 3) := by decide +kernel
theorem d_M_priority_22 : decode b_M_priority 22 = .ok (.iconst (-1), 1) := by decide +kernel
theorem d_M_priority_23 : decode b_M_priority 23 = .ok (.ireturn, 1) := by decide +kernel
theorem d_M_place_0 : decode b_M_place 0 = .ok (.aload_n 0, 1) := by decide +kernel
theorem d_M_place_1 : decode b_M_place 1 = .ok (.iconst 0, 1) := by decide +kernel
theorem d_M_place_2 : decode b_M_place 2 = .ok (.putfield 46, 3) := by decide +kernel
theorem d_M_place_5 : decode b_M_place 5 = .ok (.aload_n 0, 1) := by decide +kernel
theorem d_M_place_6 : decode b_M_place 6 = .ok (.iload_n 1, 1) := by decide +kernel
theorem d_M_place_7 : decode b_M_place 7 = .ok (.invokevirtual 87, 3) := by decide +kernel
theorem d_M_place_10 : decode b_M_place 10 = .ok (.ifCond .ne 5, 3) := by decide +kernel
theorem d_M_place_13 : decode b_M_place 13 = .ok (.iconst (-1), 1) := by decide +kernel
theorem d_M_place_14 : decode b_M_place 14 = .ok (.ireturn, 1) := by decide +kernel
theorem d_M_place_15 : decode b_M_place 15 = .ok (.iconst 0, 1) := by decide +kernel
theorem d_M_place_16 : decode b_M_place 16 = .ok (.istore_n 2, 1) := by decide +kernel
theorem d_M_place_17 : decode b_M_place 17 = .ok (.iconst 0, 1) := by decide +kernel
theorem d_M_place_18 : decode b_M_place 18 = .ok (.istore_n 3, 1) := by decide +kernel
theorem d_M_place_19 : decode b_M_place 19 = .ok (.iload_n 3, 1) := by decide +kernel
theorem d_M_place_20 : decode b_M_place 20 = .ok (.bipush 8, 2) := by decide +kernel
theorem d_M_place_22 : decode b_M_place 22 = .ok (.if_icmp .ge 40, 3) := by decide +kernel
theorem d_M_place_25 : decode b_M_place 25 = .ok (.iload_n 2, 1) := by decide +kernel
theorem d_M_place_26 : decode b_M_place 26 = .ok (.aload_n 0, 1) := by decide +kernel
theorem d_M_place_27 : decode b_M_place 27 = .ok (.getfield 19, 3) := by decide +kernel
theorem d_M_place_30 : decode b_M_place 30 = .ok (.iload_n 3, 1) := by decide +kernel
theorem d_M_place_31 : decode b_M_place 31 = .ok (.iaload, 1) := by decide +kernel
theorem d_M_place_32 : decode b_M_place 32 = .ok (.ifCond .le 21, 3) := by decide +kernel
theorem d_M_place_35 : decode b_M_place 35 = .ok (.iload_n 3, 1) := by decide +kernel
theorem d_M_place_36 : decode b_M_place 36 = .ok (.iload_n 1, 1) := by decide +kernel
theorem d_M_place_37 : decode b_M_place 37 = .ok (.if_icmp .eq 16, 3) := by decide +kernel
theorem d_M_place_40 : decode b_M_place 40 = .ok (.aload_n 0, 1) := by decide +kernel
theorem d_M_place_41 : decode b_M_place 41 = .ok (.iload_n 3, 1) := by decide +kernel
theorem d_M_place_42 : decode b_M_place 42 = .ok (.iload_n 1, 1) := by decide +kernel
theorem d_M_place_43 : decode b_M_place 43 = .ok (.invokevirtual 68, 3) := by decide +kernel
theorem d_M_place_46 : decode b_M_place 46 = .ok (.ifCond .eq 7, 3) := by decide +kernel
theorem d_M_place_49 : decode b_M_place 49 = .ok (.iconst 1, 1) := by decide +kernel
theorem d_M_place_50 : decode b_M_place 50 = .ok (.goto 4, 3) := by decide +kernel
theorem d_M_place_53 : decode b_M_place 53 = .ok (.iconst 0, 1) := by decide +kernel
theorem d_M_place_54 : decode b_M_place 54 = .ok (.iadd, 1) := by decide +kernel
theorem d_M_place_55 : decode b_M_place 55 = .ok (.istore_n 2, 1) := by decide +kernel
theorem d_M_place_56 : decode b_M_place 56 = .ok (.iinc 3 1, 3) := by decide +kernel
theorem d_M_place_59 : decode b_M_place 59 = .ok (.goto (-40), 3) := by decide +kernel
theorem d_M_place_62 : decode b_M_place 62 = .ok (.iload_n 2, 1) := by decide +kernel
theorem d_M_place_63 : decode b_M_place 63 = .ok (.ireturn, 1) := by decide +kernel
theorem d_M_ceiling_0 : decode b_M_ceiling 0 = .ok (.aload_n 0, 1) := by decide +kernel
theorem d_M_ceiling_1 : decode b_M_ceiling 1 = .ok (.iconst 0, 1) := by decide +kernel
theorem d_M_ceiling_2 : decode b_M_ceiling 2 = .ok (.putfield 46, 3) := by decide +kernel
theorem d_M_ceiling_5 : decode b_M_ceiling 5 = .ok (.aload_n 0, 1) := by decide +kernel
theorem d_M_ceiling_6 : decode b_M_ceiling 6 = .ok (.getfield 54, 3) := by decide +kernel
theorem d_M_ceiling_9 : decode b_M_ceiling 9 = .ok (.ifCond .eq 18, 3) := by decide +kernel
theorem d_M_ceiling_12 : decode b_M_ceiling 12 = .ok (.iload_n 1, 1) := by decide +kernel
theorem d_M_ceiling_13 : decode b_M_ceiling 13 = .ok (.invokestatic 65, 3) := by decide +kernel
theorem d_M_ceiling_16 : decode b_M_ceiling 16 = .ok (.ifCond .eq 11, 3) := by decide +kernel
theorem d_M_ceiling_19 : decode b_M_ceiling 19 = .ok (.aload_n 0, 1) := by decide +kernel
theorem d_M_ceiling_20 : decode b_M_ceiling 20 = .ok (.iload_n 1, 1) := by decide +kernel
theorem d_M_ceiling_21 : decode b_M_ceiling 21 = .ok (.invokevirtual 100, 3) := by decide +kernel
theorem d_M_ceiling_24 : decode b_M_ceiling 24 = .ok (.goto 4, 3) := by decide +kernel
theorem d_M_ceiling_27 : decode b_M_ceiling 27 = .ok (.iconst (-1), 1) := by decide +kernel
theorem d_M_ceiling_28 : decode b_M_ceiling 28 = .ok (.ireturn, 1) := by decide +kernel
theorem d_M_holder_0 : decode b_M_holder 0 = .ok (.aload_n 0, 1) := by decide +kernel
theorem d_M_holder_1 : decode b_M_holder 1 = .ok (.iconst 0, 1) := by decide +kernel
theorem d_M_holder_2 : decode b_M_holder 2 = .ok (.putfield 46, 3) := by decide +kernel
theorem d_M_holder_5 : decode b_M_holder 5 = .ok (.iload_n 1, 1) := by decide +kernel
theorem d_M_holder_6 : decode b_M_holder 6 = .ok (.invokestatic 65, 3) := by decide +kernel
theorem d_M_holder_9 : decode b_M_holder 9 = .ok (.ifCond .eq 12, 3) := by decide +kernel
theorem d_M_holder_12 : decode b_M_holder 12 = .ok (.aload_n 0, 1) := by decide +kernel
theorem d_M_holder_13 : decode b_M_holder 13 = .ok (.getfield 34, 3) := by decide +kernel
theorem d_M_holder_16 : decode b_M_holder 16 = .ok (.iload_n 1, 1) := by decide +kernel
theorem d_M_holder_17 : decode b_M_holder 17 = .ok (.iaload, 1) := by decide +kernel
theorem d_M_holder_18 : decode b_M_holder 18 = .ok (.goto 4, 3) := by decide +kernel
theorem d_M_holder_21 : decode b_M_holder 21 = .ok (.iconst (-1), 1) := by decide +kernel
theorem d_M_holder_22 : decode b_M_holder 22 = .ok (.ireturn, 1) := by decide +kernel
theorem d_M_spent_0 : decode b_M_spent 0 = .ok (.aload_n 0, 1) := by decide +kernel
theorem d_M_spent_1 : decode b_M_spent 1 = .ok (.iconst 0, 1) := by decide +kernel
theorem d_M_spent_2 : decode b_M_spent 2 = .ok (.putfield 46, 3) := by decide +kernel
theorem d_M_spent_5 : decode b_M_spent 5 = .ok (.aload_n 0, 1) := by decide +kernel
theorem d_M_spent_6 : decode b_M_spent 6 = .ok (.iload_n 1, 1) := by decide +kernel
theorem d_M_spent_7 : decode b_M_spent 7 = .ok (.invokevirtual 58, 3) := by decide +kernel
theorem d_M_spent_10 : decode b_M_spent 10 = .ok (.ifCond .ne 5, 3) := by decide +kernel
theorem d_M_spent_13 : decode b_M_spent 13 = .ok (.iconst 0, 1) := by decide +kernel
theorem d_M_spent_14 : decode b_M_spent 14 = .ok (.ireturn, 1) := by decide +kernel
theorem d_M_spent_15 : decode b_M_spent 15 = .ok (.iload_n 2, 1) := by decide +kernel
theorem d_M_spent_16 : decode b_M_spent 16 = .ok (.ifCond .ne 12, 3) := by decide +kernel
theorem d_M_spent_19 : decode b_M_spent 19 = .ok (.aload_n 0, 1) := by decide +kernel
theorem d_M_spent_20 : decode b_M_spent 20 = .ok (.getfield 25, 3) := by decide +kernel
theorem d_M_spent_23 : decode b_M_spent 23 = .ok (.iload_n 1, 1) := by decide +kernel
theorem d_M_spent_24 : decode b_M_spent 24 = .ok (.iaload, 1) := by decide +kernel
theorem d_M_spent_25 : decode b_M_spent 25 = .ok (.goto 18, 3) := by decide +kernel
theorem d_M_spent_28 : decode b_M_spent 28 = .ok (.iload_n 2, 1) := by decide +kernel
theorem d_M_spent_29 : decode b_M_spent 29 = .ok (.iconst 1, 1) := by decide +kernel
theorem d_M_spent_30 : decode b_M_spent 30 = .ok (.if_icmp .ne 12, 3) := by decide +kernel
theorem d_M_spent_33 : decode b_M_spent 33 = .ok (.aload_n 0, 1) := by decide +kernel
theorem d_M_spent_34 : decode b_M_spent 34 = .ok (.getfield 28, 3) := by decide +kernel
theorem d_M_spent_37 : decode b_M_spent 37 = .ok (.iload_n 1, 1) := by decide +kernel
theorem d_M_spent_38 : decode b_M_spent 38 = .ok (.iaload, 1) := by decide +kernel
theorem d_M_spent_39 : decode b_M_spent 39 = .ok (.goto 4, 3) := by decide +kernel
theorem d_M_spent_42 : decode b_M_spent 42 = .ok (.iconst 0, 1) := by decide +kernel
theorem d_M_spent_43 : decode b_M_spent 43 = .ok (.ireturn, 1) := by decide +kernel
theorem d_M_longest_0 : decode b_M_longest 0 = .ok (.iconst 0, 1) := by decide +kernel
theorem d_M_longest_1 : decode b_M_longest 1 = .ok (.istore_n 2, 1) := by decide +kernel
theorem d_M_longest_2 : decode b_M_longest 2 = .ok (.iconst 0, 1) := by decide +kernel
theorem d_M_longest_3 : decode b_M_longest 3 = .ok (.istore_n 3, 1) := by decide +kernel
theorem d_M_longest_4 : decode b_M_longest 4 = .ok (.iload_n 3, 1) := by decide +kernel
theorem d_M_longest_5 : decode b_M_longest 5 = .ok (.bipush 48, 2) := by decide +kernel
theorem d_M_longest_7 : decode b_M_longest 7 = .ok (.if_icmp .ge 86, 3) := by decide +kernel
theorem d_M_longest_10 : decode b_M_longest 10 = .ok (.aload_n 0, 1) := by decide +kernel
theorem d_M_longest_11 : decode b_M_longest 11 = .ok (.getfield 7, 3) := by decide +kernel
theorem d_M_longest_14 : decode b_M_longest 14 = .ok (.iload_n 3, 1) := by decide +kernel
theorem d_M_longest_15 : decode b_M_longest 15 = .ok (.bipush 6, 2) := by decide +kernel
theorem d_M_longest_17 : decode b_M_longest 17 = .ok (.idiv, 1) := by decide +kernel
theorem d_M_longest_18 : decode b_M_longest 18 = .ok (.iaload, 1) := by decide +kernel
theorem d_M_longest_19 : decode b_M_longest 19 = .ok (.aload_n 0, 1) := by decide +kernel
theorem d_M_longest_20 : decode b_M_longest 20 = .ok (.getfield 7, 3) := by decide +kernel
theorem d_M_longest_23 : decode b_M_longest 23 = .ok (.iload_n 1, 1) := by decide +kernel
theorem d_M_longest_24 : decode b_M_longest 24 = .ok (.iaload, 1) := by decide +kernel
theorem d_M_longest_25 : decode b_M_longest 25 = .ok (.if_icmp .ge 33, 3) := by decide +kernel
theorem d_M_longest_28 : decode b_M_longest 28 = .ok (.aload_n 0, 1) := by decide +kernel
theorem d_M_longest_29 : decode b_M_longest 29 = .ok (.getfield 31, 3) := by decide +kernel
theorem d_M_longest_32 : decode b_M_longest 32 = .ok (.iload_n 3, 1) := by decide +kernel
theorem d_M_longest_33 : decode b_M_longest 33 = .ok (.iaload, 1) := by decide +kernel
theorem d_M_longest_34 : decode b_M_longest 34 = .ok (.ifCond .le 24, 3) := by decide +kernel
theorem d_M_longest_37 : decode b_M_longest 37 = .ok (.aload_n 0, 1) := by decide +kernel
theorem d_M_longest_38 : decode b_M_longest 38 = .ok (.iload_n 3, 1) := by decide +kernel
theorem d_M_longest_39 : decode b_M_longest 39 = .ok (.bipush 6, 2) := by decide +kernel
theorem d_M_longest_41 : decode b_M_longest 41 = .ok (.irem, 1) := by decide +kernel
theorem d_M_longest_42 : decode b_M_longest 42 = .ok (.invokevirtual 100, 3) := by decide +kernel
theorem d_M_longest_45 : decode b_M_longest 45 = .ok (.aload_n 0, 1) := by decide +kernel
theorem d_M_longest_46 : decode b_M_longest 46 = .ok (.getfield 7, 3) := by decide +kernel
theorem d_M_longest_49 : decode b_M_longest 49 = .ok (.iload_n 1, 1) := by decide +kernel
theorem d_M_longest_50 : decode b_M_longest 50 = .ok (.iaload, 1) := by decide +kernel
theorem d_M_longest_51 : decode b_M_longest 51 = .ok (.if_icmp .lt 7, 3) := by decide +kernel
theorem d_M_longest_54 : decode b_M_longest 54 = .ok (.iconst 1, 1) := by decide +kernel
theorem d_M_longest_55 : decode b_M_longest 55 = .ok (.goto 4, 3) := by decide +kernel
theorem d_M_longest_58 : decode b_M_longest 58 = .ok (.iconst 0, 1) := by decide +kernel
theorem d_M_longest_59 : decode b_M_longest 59 = .ok (.istore 4, 2) := by decide +kernel
theorem d_M_longest_61 : decode b_M_longest 61 = .ok (.iload 4, 2) := by decide +kernel
theorem d_M_longest_63 : decode b_M_longest 63 = .ok (.ifCond .eq 22, 3) := by decide +kernel
theorem d_M_longest_66 : decode b_M_longest 66 = .ok (.aload_n 0, 1) := by decide +kernel
theorem d_M_longest_67 : decode b_M_longest 67 = .ok (.getfield 31, 3) := by decide +kernel
theorem d_M_longest_70 : decode b_M_longest 70 = .ok (.iload_n 3, 1) := by decide +kernel
theorem d_M_longest_71 : decode b_M_longest 71 = .ok (.iaload, 1) := by decide +kernel
theorem d_M_longest_72 : decode b_M_longest 72 = .ok (.iload_n 2, 1) := by decide +kernel
theorem d_M_longest_73 : decode b_M_longest 73 = .ok (.if_icmp .le 12, 3) := by decide +kernel
theorem d_M_longest_76 : decode b_M_longest 76 = .ok (.aload_n 0, 1) := by decide +kernel
theorem d_M_longest_77 : decode b_M_longest 77 = .ok (.getfield 31, 3) := by decide +kernel
theorem d_M_longest_80 : decode b_M_longest 80 = .ok (.iload_n 3, 1) := by decide +kernel
theorem d_M_longest_81 : decode b_M_longest 81 = .ok (.iaload, 1) := by decide +kernel
theorem d_M_longest_82 : decode b_M_longest 82 = .ok (.goto 4, 3) := by decide +kernel
theorem d_M_longest_85 : decode b_M_longest 85 = .ok (.iload_n 2, 1) := by decide +kernel
theorem d_M_longest_86 : decode b_M_longest 86 = .ok (.istore_n 2, 1) := by decide +kernel
theorem d_M_longest_87 : decode b_M_longest 87 = .ok (.iinc 3 1, 3) := by decide +kernel
theorem d_M_longest_90 : decode b_M_longest 90 = .ok (.goto (-86), 3) := by decide +kernel
theorem d_M_longest_93 : decode b_M_longest 93 = .ok (.iload_n 2, 1) := by decide +kernel
theorem d_M_longest_94 : decode b_M_longest 94 = .ok (.ireturn, 1) := by decide +kernel
theorem d_M_blocking_0 : decode b_M_blocking 0 = .ok (.aload_n 0, 1) := by decide +kernel
theorem d_M_blocking_1 : decode b_M_blocking 1 = .ok (.iconst 0, 1) := by decide +kernel
theorem d_M_blocking_2 : decode b_M_blocking 2 = .ok (.putfield 46, 3) := by decide +kernel
theorem d_M_blocking_5 : decode b_M_blocking 5 = .ok (.aload_n 0, 1) := by decide +kernel
theorem d_M_blocking_6 : decode b_M_blocking 6 = .ok (.getfield 54, 3) := by decide +kernel
theorem d_M_blocking_9 : decode b_M_blocking 9 = .ok (.ifCond .eq 19, 3) := by decide +kernel
theorem d_M_blocking_12 : decode b_M_blocking 12 = .ok (.aload_n 0, 1) := by decide +kernel
theorem d_M_blocking_13 : decode b_M_blocking 13 = .ok (.iload_n 1, 1) := by decide +kernel
theorem d_M_blocking_14 : decode b_M_blocking 14 = .ok (.invokevirtual 58, 3) := by decide +kernel
theorem d_M_blocking_17 : decode b_M_blocking 17 = .ok (.ifCond .eq 11, 3) := by decide +kernel
theorem d_M_blocking_20 : decode b_M_blocking 20 = .ok (.aload_n 0, 1) := by decide +kernel
theorem d_M_blocking_21 : decode b_M_blocking 21 = .ok (.iload_n 1, 1) := by decide +kernel
theorem d_M_blocking_22 : decode b_M_blocking 22 = .ok (.invokevirtual 107, 3) := by decide +kernel
theorem d_M_blocking_25 : decode b_M_blocking 25 = .ok (.goto 4, 3) := by decide +kernel
theorem d_M_blocking_28 : decode b_M_blocking 28 = .ok (.iconst (-1), 1) := by decide +kernel
theorem d_M_blocking_29 : decode b_M_blocking 29 = .ok (.ireturn, 1) := by decide +kernel
theorem d_M_load_0 : decode b_M_load 0 = .ok (.aload_n 0, 1) := by decide +kernel
theorem d_M_load_1 : decode b_M_load 1 = .ok (.getfield 13, 3) := by decide +kernel
theorem d_M_load_4 : decode b_M_load 4 = .ok (.iload_n 1, 1) := by decide +kernel
theorem d_M_load_5 : decode b_M_load 5 = .ok (.iaload, 1) := by decide +kernel
theorem d_M_load_6 : decode b_M_load 6 = .ok (.aload_n 0, 1) := by decide +kernel
theorem d_M_load_7 : decode b_M_load 7 = .ok (.iload_n 1, 1) := by decide +kernel
theorem d_M_load_8 : decode b_M_load 8 = .ok (.invokevirtual 107, 3) := by decide +kernel
theorem d_M_load_11 : decode b_M_load 11 = .ok (.iadd, 1) := by decide +kernel
theorem d_M_load_12 : decode b_M_load 12 = .ok (.istore_n 3, 1) := by decide +kernel
theorem d_M_load_13 : decode b_M_load 13 = .ok (.iconst 0, 1) := by decide +kernel
theorem d_M_load_14 : decode b_M_load 14 = .ok (.istore 4, 2) := by decide +kernel
theorem d_M_load_16 : decode b_M_load 16 = .ok (.iload 4, 2) := by decide +kernel
theorem d_M_load_18 : decode b_M_load 18 = .ok (.bipush 8, 2) := by decide +kernel
theorem d_M_load_20 : decode b_M_load 20 = .ok (.if_icmp .ge 87, 3) := by decide +kernel
theorem d_M_load_23 : decode b_M_load 23 = .ok (.iload 4, 2) := by decide +kernel
theorem d_M_load_25 : decode b_M_load 25 = .ok (.iload_n 1, 1) := by decide +kernel
theorem d_M_load_26 : decode b_M_load 26 = .ok (.if_icmp .eq 33, 3) := by decide +kernel
theorem d_M_load_29 : decode b_M_load 29 = .ok (.aload_n 0, 1) := by decide +kernel
theorem d_M_load_30 : decode b_M_load 30 = .ok (.getfield 7, 3) := by decide +kernel
theorem d_M_load_33 : decode b_M_load 33 = .ok (.iload 4, 2) := by decide +kernel
theorem d_M_load_35 : decode b_M_load 35 = .ok (.iaload, 1) := by decide +kernel
theorem d_M_load_36 : decode b_M_load 36 = .ok (.ifCond .le 23, 3) := by decide +kernel
theorem d_M_load_39 : decode b_M_load 39 = .ok (.aload_n 0, 1) := by decide +kernel
theorem d_M_load_40 : decode b_M_load 40 = .ok (.getfield 7, 3) := by decide +kernel
theorem d_M_load_43 : decode b_M_load 43 = .ok (.iload 4, 2) := by decide +kernel
theorem d_M_load_45 : decode b_M_load 45 = .ok (.iaload, 1) := by decide +kernel
theorem d_M_load_46 : decode b_M_load 46 = .ok (.aload_n 0, 1) := by decide +kernel
theorem d_M_load_47 : decode b_M_load 47 = .ok (.getfield 7, 3) := by decide +kernel
theorem d_M_load_50 : decode b_M_load 50 = .ok (.iload_n 1, 1) := by decide +kernel
theorem d_M_load_51 : decode b_M_load 51 = .ok (.iaload, 1) := by decide +kernel
theorem d_M_load_52 : decode b_M_load 52 = .ok (.if_icmp .lt 7, 3) := by decide +kernel
theorem d_M_load_55 : decode b_M_load 55 = .ok (.iconst 1, 1) := by decide +kernel
theorem d_M_load_56 : decode b_M_load 56 = .ok (.goto 4, 3) := by decide +kernel
theorem d_M_load_59 : decode b_M_load 59 = .ok (.iconst 0, 1) := by decide +kernel
theorem d_M_load_60 : decode b_M_load 60 = .ok (.istore 5, 2) := by decide +kernel
theorem d_M_load_62 : decode b_M_load 62 = .ok (.iload_n 3, 1) := by decide +kernel
theorem d_M_load_63 : decode b_M_load 63 = .ok (.iload 5, 2) := by decide +kernel
theorem d_M_load_65 : decode b_M_load 65 = .ok (.ifCond .eq 33, 3) := by decide +kernel
theorem d_M_load_68 : decode b_M_load 68 = .ok (.iload_n 2, 1) := by decide +kernel
theorem d_M_load_69 : decode b_M_load 69 = .ok (.aload_n 0, 1) := by decide +kernel
theorem d_M_load_70 : decode b_M_load 70 = .ok (.getfield 16, 3) := by decide +kernel
theorem d_M_load_73 : decode b_M_load 73 = .ok (.iload 4, 2) := by decide +kernel
theorem d_M_load_75 : decode b_M_load 75 = .ok (.iaload, 1) := by decide +kernel
theorem d_M_load_76 : decode b_M_load 76 = .ok (.iadd, 1) := by decide +kernel
theorem d_M_load_77 : decode b_M_load 77 = .ok (.iconst 1, 1) := by decide +kernel
theorem d_M_load_78 : decode b_M_load 78 = .ok (.isub, 1) := by decide +kernel
theorem d_M_load_79 : decode b_M_load 79 = .ok (.aload_n 0, 1) := by decide +kernel
theorem d_M_load_80 : decode b_M_load 80 = .ok (.getfield 16, 3) := by decide +kernel
theorem d_M_load_83 : decode b_M_load 83 = .ok (.iload 4, 2) := by decide +kernel
theorem d_M_load_85 : decode b_M_load 85 = .ok (.iaload, 1) := by decide +kernel
theorem d_M_load_86 : decode b_M_load 86 = .ok (.idiv, 1) := by decide +kernel
theorem d_M_load_87 : decode b_M_load 87 = .ok (.aload_n 0, 1) := by decide +kernel
theorem d_M_load_88 : decode b_M_load 88 = .ok (.getfield 13, 3) := by decide +kernel
theorem d_M_load_91 : decode b_M_load 91 = .ok (.iload 4, 2) := by decide +kernel
theorem d_M_load_93 : decode b_M_load 93 = .ok (.iaload, 1) := by decide +kernel
theorem d_M_load_94 : decode b_M_load 94 = .ok (.imul, 1) := by decide +kernel
theorem d_M_load_95 : decode b_M_load 95 = .ok (.goto 4, 3) := by decide +kernel
theorem d_M_load_98 : decode b_M_load 98 = .ok (.iconst 0, 1) := by decide +kernel
theorem d_M_load_99 : decode b_M_load 99 = .ok (.iadd, 1) := by decide +kernel
theorem d_M_load_100 : decode b_M_load 100 = .ok (.istore_n 3, 1) := by decide +kernel
theorem d_M_load_101 : decode b_M_load 101 = .ok (.iinc 4 1, 3) := by decide +kernel
theorem d_M_load_104 : decode b_M_load 104 = .ok (.goto (-88), 3) := by decide +kernel
theorem d_M_load_107 : decode b_M_load 107 = .ok (.iload_n 3, 1) := by decide +kernel
theorem d_M_load_108 : decode b_M_load 108 = .ok (.ireturn, 1) := by decide +kernel
theorem d_M_response_0 : decode b_M_response 0 = .ok (.aload_n 0, 1) := by decide +kernel
theorem d_M_response_1 : decode b_M_response 1 = .ok (.iconst 0, 1) := by decide +kernel
theorem d_M_response_2 : decode b_M_response 2 = .ok (.putfield 46, 3) := by decide +kernel
theorem d_M_response_5 : decode b_M_response 5 = .ok (.aload_n 0, 1) := by decide +kernel
theorem d_M_response_6 : decode b_M_response 6 = .ok (.getfield 54, 3) := by decide +kernel
theorem d_M_response_9 : decode b_M_response 9 = .ok (.ifCond .eq 11, 3) := by decide +kernel
theorem d_M_response_12 : decode b_M_response 12 = .ok (.aload_n 0, 1) := by decide +kernel
theorem d_M_response_13 : decode b_M_response 13 = .ok (.iload_n 1, 1) := by decide +kernel
theorem d_M_response_14 : decode b_M_response 14 = .ok (.invokevirtual 58, 3) := by decide +kernel
theorem d_M_response_17 : decode b_M_response 17 = .ok (.ifCond .ne 5, 3) := by decide +kernel
theorem d_M_response_20 : decode b_M_response 20 = .ok (.iconst (-1), 1) := by decide +kernel
theorem d_M_response_21 : decode b_M_response 21 = .ok (.ireturn, 1) := by decide +kernel
theorem d_M_response_22 : decode b_M_response 22 = .ok (.iconst 1, 1) := by decide +kernel
theorem d_M_response_23 : decode b_M_response 23 = .ok (.istore_n 2, 1) := by decide +kernel
theorem d_M_response_24 : decode b_M_response 24 = .ok (.iload_n 2, 1) := by decide +kernel
theorem d_M_response_25 : decode b_M_response 25 = .ok (.aload_n 0, 1) := by decide +kernel
theorem d_M_response_26 : decode b_M_response 26 = .ok (.getfield 16, 3) := by decide +kernel
theorem d_M_response_29 : decode b_M_response 29 = .ok (.iload_n 1, 1) := by decide +kernel
theorem d_M_response_30 : decode b_M_response 30 = .ok (.iaload, 1) := by decide +kernel
theorem d_M_response_31 : decode b_M_response 31 = .ok (.if_icmp .gt 21, 3) := by decide +kernel
theorem d_M_response_34 : decode b_M_response 34 = .ok (.aload_n 0, 1) := by decide +kernel
theorem d_M_response_35 : decode b_M_response 35 = .ok (.iload_n 1, 1) := by decide +kernel
theorem d_M_response_36 : decode b_M_response 36 = .ok (.iload_n 2, 1) := by decide +kernel
theorem d_M_response_37 : decode b_M_response 37 = .ok (.invokevirtual 110, 3) := by decide +kernel
theorem d_M_response_40 : decode b_M_response 40 = .ok (.iload_n 2, 1) := by decide +kernel
theorem d_M_response_41 : decode b_M_response 41 = .ok (.if_icmp .ne 5, 3) := by decide +kernel
theorem d_M_response_44 : decode b_M_response 44 = .ok (.iload_n 2, 1) := by decide +kernel
theorem d_M_response_45 : decode b_M_response 45 = .ok (.ireturn, 1) := by decide +kernel
theorem d_M_response_46 : decode b_M_response 46 = .ok (.iinc 2 1, 3) := by decide +kernel
theorem d_M_response_49 : decode b_M_response 49 = .ok (.goto (-25), 3) := by decide +kernel
theorem d_M_response_52 : decode b_M_response 52 = .ok (.iconst (-1), 1) := by decide +kernel
theorem d_M_response_53 : decode b_M_response 53 = .ok (.ireturn, 1) := by decide +kernel
theorem d_M_notes_0 : decode b_M_notes 0 = .ok (.aload_n 0, 1) := by decide +kernel
theorem d_M_notes_1 : decode b_M_notes 1 = .ok (.iconst 0, 1) := by decide +kernel
theorem d_M_notes_2 : decode b_M_notes 2 = .ok (.putfield 46, 3) := by decide +kernel
theorem d_M_notes_5 : decode b_M_notes 5 = .ok (.aload_n 0, 1) := by decide +kernel
theorem d_M_notes_6 : decode b_M_notes 6 = .ok (.getfield 72, 3) := by decide +kernel
theorem d_M_notes_9 : decode b_M_notes 9 = .ok (.ireturn, 1) := by decide +kernel
theorem d_M_note_0 : decode b_M_note 0 = .ok (.aload_n 0, 1) := by decide +kernel
theorem d_M_note_1 : decode b_M_note 1 = .ok (.iconst 0, 1) := by decide +kernel
theorem d_M_note_2 : decode b_M_note 2 = .ok (.putfield 46, 3) := by decide +kernel
theorem d_M_note_5 : decode b_M_note 5 = .ok (.iload_n 1, 1) := by decide +kernel
theorem d_M_note_6 : decode b_M_note 6 = .ok (.ifCond .lt 17, 3) := by decide +kernel
theorem d_M_note_9 : decode b_M_note 9 = .ok (.iload_n 1, 1) := by decide +kernel
theorem d_M_note_10 : decode b_M_note 10 = .ok (.bipush 40, 2) := by decide +kernel
theorem d_M_note_12 : decode b_M_note 12 = .ok (.if_icmp .ge 11, 3) := by decide +kernel
theorem d_M_note_15 : decode b_M_note 15 = .ok (.iload_n 1, 1) := by decide +kernel
theorem d_M_note_16 : decode b_M_note 16 = .ok (.aload_n 0, 1) := by decide +kernel
theorem d_M_note_17 : decode b_M_note 17 = .ok (.getfield 72, 3) := by decide +kernel
theorem d_M_note_20 : decode b_M_note 20 = .ok (.if_icmp .lt 7, 3) := by decide +kernel
theorem d_M_note_23 : decode b_M_note 23 = .ok (.iconst (-1), 1) := by decide +kernel
theorem d_M_note_24 : decode b_M_note 24 = .ok (.goto 19, 3) := by decide +kernel
theorem d_M_note_27 : decode b_M_note 27 = .ok (.aload_n 0, 1) := by decide +kernel
theorem d_M_note_28 : decode b_M_note 28 = .ok (.getfield 43, 3) := by decide +kernel
theorem d_M_note_31 : decode b_M_note 31 = .ok (.aload_n 0, 1) := by decide +kernel
theorem d_M_note_32 : decode b_M_note 32 = .ok (.getfield 72, 3) := by decide +kernel
theorem d_M_note_35 : decode b_M_note 35 = .ok (.iconst 1, 1) := by decide +kernel
theorem d_M_note_36 : decode b_M_note 36 = .ok (.isub, 1) := by decide +kernel
theorem d_M_note_37 : decode b_M_note 37 = .ok (.iload_n 1, 1) := by decide +kernel
theorem d_M_note_38 : decode b_M_note 38 = .ok (.isub, 1) := by decide +kernel
theorem d_M_note_39 : decode b_M_note 39 = .ok (.bipush 40, 2) := by decide +kernel
theorem d_M_note_41 : decode b_M_note 41 = .ok (.irem, 1) := by decide +kernel
theorem d_M_note_42 : decode b_M_note 42 = .ok (.iaload, 1) := by decide +kernel
theorem d_M_note_43 : decode b_M_note 43 = .ok (.ireturn, 1) := by decide +kernel
