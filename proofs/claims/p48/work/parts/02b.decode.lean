theorem dX6_init_0 : decode cX6_init 0 = .ok (.aload_n 0, 1) := by decide +kernel
theorem dX6_init_1 : decode cX6_init 1 = .ok (.invokespecial 3, 3) := by decide +kernel
theorem dX6_init_4 : decode cX6_init 4 = .ok (.aload_n 0, 1) := by decide +kernel
theorem dX6_init_5 : decode cX6_init 5 = .ok (.new 9, 3) := by decide +kernel
theorem dX6_init_8 : decode cX6_init 8 = .ok (.dup, 1) := by decide +kernel
theorem dX6_init_9 : decode cX6_init 9 = .ok (.invokespecial 11, 3) := by decide +kernel
theorem dX6_init_12 : decode cX6_init 12 = .ok (.putfield 12, 3) := by decide +kernel
theorem dX6_init_15 : decode cX6_init 15 = .ok (.aload_n 0, 1) := by decide +kernel
theorem dX6_init_16 : decode cX6_init 16 = .ok (.sipush 837, 3) := by decide +kernel
theorem dX6_init_19 : decode cX6_init 19 = .ok (.newarray .long, 2) := by decide +kernel
theorem dX6_init_21 : decode cX6_init 21 = .ok (.putfield 18, 3) := by decide +kernel
theorem dX6_init_24 : decode cX6_init 24 = .ok (.aload_n 0, 1) := by decide +kernel
theorem dX6_init_25 : decode cX6_init 25 = .ok (.bipush 93, 2) := by decide +kernel
theorem dX6_init_27 : decode cX6_init 27 = .ok (.newarray .int, 2) := by decide +kernel
theorem dX6_init_29 : decode cX6_init 29 = .ok (.putfield 22, 3) := by decide +kernel
theorem dX6_init_32 : decode cX6_init 32 = .ok (.aload_n 0, 1) := by decide +kernel
theorem dX6_init_33 : decode cX6_init 33 = .ok (.bipush 93, 2) := by decide +kernel
theorem dX6_init_35 : decode cX6_init 35 = .ok (.newarray .int, 2) := by decide +kernel
theorem dX6_init_37 : decode cX6_init 37 = .ok (.putfield 26, 3) := by decide +kernel
theorem dX6_init_40 : decode cX6_init 40 = .ok (.aload_n 0, 1) := by decide +kernel
theorem dX6_init_41 : decode cX6_init 41 = .ok (.bipush 31, 2) := by decide +kernel
theorem dX6_init_43 : decode cX6_init 43 = .ok (.newarray .int, 2) := by decide +kernel
theorem dX6_init_45 : decode cX6_init 45 = .ok (.putfield 29, 3) := by decide +kernel
theorem dX6_init_48 : decode cX6_init 48 = .ok (.aload_n 0, 1) := by decide +kernel
theorem dX6_init_49 : decode cX6_init 49 = .ok (.bipush 31, 2) := by decide +kernel
theorem dX6_init_51 : decode cX6_init 51 = .ok (.newarray .int, 2) := by decide +kernel
theorem dX6_init_53 : decode cX6_init 53 = .ok (.putfield 32, 3) := by decide +kernel
theorem dX6_init_56 : decode cX6_init 56 = .ok (.aload_n 0, 1) := by decide +kernel
theorem dX6_init_57 : decode cX6_init 57 = .ok (.sipush 1728, 3) := by decide +kernel
theorem dX6_init_60 : decode cX6_init 60 = .ok (.newarray .long, 2) := by decide +kernel
theorem dX6_init_62 : decode cX6_init 62 = .ok (.putfield 35, 3) := by decide +kernel
theorem dX6_init_65 : decode cX6_init 65 = .ok (.aload_n 0, 1) := by decide +kernel
theorem dX6_init_66 : decode cX6_init 66 = .ok (.sipush 1728, 3) := by decide +kernel
theorem dX6_init_69 : decode cX6_init 69 = .ok (.newarray .long, 2) := by decide +kernel
theorem dX6_init_71 : decode cX6_init 71 = .ok (.putfield 38, 3) := by decide +kernel
theorem dX6_init_74 : decode cX6_init 74 = .ok (.aload_n 0, 1) := by decide +kernel
theorem dX6_init_75 : decode cX6_init 75 = .ok (.sipush 1728, 3) := by decide +kernel
theorem dX6_init_78 : decode cX6_init 78 = .ok (.newarray .long, 2) := by decide +kernel
theorem dX6_init_80 : decode cX6_init 80 = .ok (.putfield 41, 3) := by decide +kernel
theorem dX6_init_83 : decode cX6_init 83 = .ok (.return_, 1) := by decide +kernel
theorem dX6_firstEmpty_0 : decode cX6_firstEmpty 0 = .ok (.aload_n 1, 1) := by decide +kernel
theorem dX6_firstEmpty_1 : decode cX6_firstEmpty 1 = .ok (.getfield 44, 3) := by decide +kernel
theorem dX6_firstEmpty_4 : decode cX6_firstEmpty 4 = .ok (.ifCond .ne 5, 3) := by decide +kernel
theorem dX6_firstEmpty_7 : decode cX6_firstEmpty 7 = .ok (.iconst 0, 1) := by decide +kernel
theorem dX6_firstEmpty_8 : decode cX6_firstEmpty 8 = .ok (.ireturn, 1) := by decide +kernel
theorem dX6_firstEmpty_9 : decode cX6_firstEmpty 9 = .ok (.aload_n 0, 1) := by decide +kernel
theorem dX6_firstEmpty_10 : decode cX6_firstEmpty 10 = .ok (.aload_n 1, 1) := by decide +kernel
theorem dX6_firstEmpty_11 : decode cX6_firstEmpty 11 = .ok (.iconst 0, 1) := by decide +kernel
theorem dX6_firstEmpty_12 : decode cX6_firstEmpty 12 = .ok (.iconst 0, 1) := by decide +kernel
theorem dX6_firstEmpty_13 : decode cX6_firstEmpty 13 = .ok (.invokevirtual 50, 3) := by decide +kernel
theorem dX6_firstEmpty_16 : decode cX6_firstEmpty 16 = .ok (.aload_n 0, 1) := by decide +kernel
theorem dX6_firstEmpty_17 : decode cX6_firstEmpty 17 = .ok (.getfield 54, 3) := by decide +kernel
theorem dX6_firstEmpty_20 : decode cX6_firstEmpty 20 = .ok (.getfield 58, 3) := by decide +kernel
theorem dX6_firstEmpty_23 : decode cX6_firstEmpty 23 = .ok (.getfield 62, 3) := by decide +kernel
theorem dX6_firstEmpty_26 : decode cX6_firstEmpty 26 = .ok (.istore_n 3, 1) := by decide +kernel
theorem dX6_firstEmpty_27 : decode cX6_firstEmpty 27 = .ok (.iconst 0, 1) := by decide +kernel
theorem dX6_firstEmpty_28 : decode cX6_firstEmpty 28 = .ok (.istore 4, 2) := by decide +kernel
theorem dX6_firstEmpty_30 : decode cX6_firstEmpty 30 = .ok (.iload 4, 2) := by decide +kernel
theorem dX6_firstEmpty_32 : decode cX6_firstEmpty 32 = .ok (.iload_n 3, 1) := by decide +kernel
theorem dX6_firstEmpty_33 : decode cX6_firstEmpty 33 = .ok (.if_icmp .gt 42, 3) := by decide +kernel
theorem dX6_firstEmpty_36 : decode cX6_firstEmpty 36 = .ok (.iload 4, 2) := by decide +kernel
theorem dX6_firstEmpty_38 : decode cX6_firstEmpty 38 = .ok (.ifCond .le 11, 3) := by decide +kernel
theorem dX6_firstEmpty_41 : decode cX6_firstEmpty 41 = .ok (.aload_n 0, 1) := by decide +kernel
theorem dX6_firstEmpty_42 : decode cX6_firstEmpty 42 = .ok (.iload 4, 2) := by decide +kernel
theorem dX6_firstEmpty_44 : decode cX6_firstEmpty 44 = .ok (.iconst 1, 1) := by decide +kernel
theorem dX6_firstEmpty_45 : decode cX6_firstEmpty 45 = .ok (.isub, 1) := by decide +kernel
theorem dX6_firstEmpty_46 : decode cX6_firstEmpty 46 = .ok (.invokevirtual 68, 3) := by decide +kernel
theorem dX6_firstEmpty_49 : decode cX6_firstEmpty 49 = .ok (.iload_n 2, 1) := by decide +kernel
theorem dX6_firstEmpty_50 : decode cX6_firstEmpty 50 = .ok (.ifCond .eq 9, 3) := by decide +kernel
theorem dX6_firstEmpty_53 : decode cX6_firstEmpty 53 = .ok (.aload_n 0, 1) := by decide +kernel
theorem dX6_firstEmpty_54 : decode cX6_firstEmpty 54 = .ok (.iload 4, 2) := by decide +kernel
theorem dX6_firstEmpty_56 : decode cX6_firstEmpty 56 = .ok (.invokevirtual 72, 3) := by decide +kernel
theorem dX6_firstEmpty_59 : decode cX6_firstEmpty 59 = .ok (.aload_n 0, 1) := by decide +kernel
theorem dX6_firstEmpty_60 : decode cX6_firstEmpty 60 = .ok (.invokevirtual 75, 3) := by decide +kernel
theorem dX6_firstEmpty_63 : decode cX6_firstEmpty 63 = .ok (.ifCond .eq 6, 3) := by decide +kernel
theorem dX6_firstEmpty_66 : decode cX6_firstEmpty 66 = .ok (.iload 4, 2) := by decide +kernel
theorem dX6_firstEmpty_68 : decode cX6_firstEmpty 68 = .ok (.ireturn, 1) := by decide +kernel
theorem dX6_firstEmpty_69 : decode cX6_firstEmpty 69 = .ok (.iinc 4 1, 3) := by decide +kernel
theorem dX6_firstEmpty_72 : decode cX6_firstEmpty 72 = .ok (.goto (-42), 3) := by decide +kernel
theorem dX6_firstEmpty_75 : decode cX6_firstEmpty 75 = .ok (.bipush (-9), 2) := by decide +kernel
theorem dX6_firstEmpty_77 : decode cX6_firstEmpty 77 = .ok (.ireturn, 1) := by decide +kernel
theorem dX6_live_0 : decode cX6_live 0 = .ok (.aload_n 0, 1) := by decide +kernel
theorem dX6_live_1 : decode cX6_live 1 = .ok (.aload_n 1, 1) := by decide +kernel
theorem dX6_live_2 : decode cX6_live 2 = .ok (.putfield 54, 3) := by decide +kernel
theorem dX6_live_5 : decode cX6_live 5 = .ok (.aload_n 0, 1) := by decide +kernel
theorem dX6_live_6 : decode cX6_live 6 = .ok (.iconst 5, 1) := by decide +kernel
theorem dX6_live_7 : decode cX6_live 7 = .ok (.putfield 79, 3) := by decide +kernel
theorem dX6_live_10 : decode cX6_live 10 = .ok (.aload_n 0, 1) := by decide +kernel
theorem dX6_live_11 : decode cX6_live 11 = .ok (.getfield 54, 3) := by decide +kernel
theorem dX6_live_14 : decode cX6_live 14 = .ok (.getfield 58, 3) := by decide +kernel
theorem dX6_live_17 : decode cX6_live 17 = .ok (.getfield 62, 3) := by decide +kernel
theorem dX6_live_20 : decode cX6_live 20 = .ok (.istore_n 2, 1) := by decide +kernel
theorem dX6_live_21 : decode cX6_live 21 = .ok (.aload_n 0, 1) := by decide +kernel
theorem dX6_live_22 : decode cX6_live 22 = .ok (.iload_n 2, 1) := by decide +kernel
theorem dX6_live_23 : decode cX6_live 23 = .ok (.invokevirtual 82, 3) := by decide +kernel
theorem dX6_live_26 : decode cX6_live 26 = .ok (.iload_n 2, 1) := by decide +kernel
theorem dX6_live_27 : decode cX6_live 27 = .ok (.iconst 1, 1) := by decide +kernel
theorem dX6_live_28 : decode cX6_live 28 = .ok (.isub, 1) := by decide +kernel
theorem dX6_live_29 : decode cX6_live 29 = .ok (.istore_n 3, 1) := by decide +kernel
theorem dX6_live_30 : decode cX6_live 30 = .ok (.iload_n 3, 1) := by decide +kernel
theorem dX6_live_31 : decode cX6_live 31 = .ok (.ifCond .lt 74, 3) := by decide +kernel
theorem dX6_live_34 : decode cX6_live 34 = .ok (.iconst 0, 1) := by decide +kernel
theorem dX6_live_35 : decode cX6_live 35 = .ok (.istore 4, 2) := by decide +kernel
theorem dX6_live_37 : decode cX6_live 37 = .ok (.iload 4, 2) := by decide +kernel
theorem dX6_live_39 : decode cX6_live 39 = .ok (.iconst 3, 1) := by decide +kernel
theorem dX6_live_40 : decode cX6_live 40 = .ok (.if_icmp .ge 35, 3) := by decide +kernel
theorem dX6_live_43 : decode cX6_live 43 = .ok (.aload_n 0, 1) := by decide +kernel
theorem dX6_live_44 : decode cX6_live 44 = .ok (.getfield 22, 3) := by decide +kernel
theorem dX6_live_47 : decode cX6_live 47 = .ok (.iload 4, 2) := by decide +kernel
theorem dX6_live_49 : decode cX6_live 49 = .ok (.bipush 31, 2) := by decide +kernel
theorem dX6_live_51 : decode cX6_live 51 = .ok (.imul, 1) := by decide +kernel
theorem dX6_live_52 : decode cX6_live 52 = .ok (.iload_n 3, 1) := by decide +kernel
theorem dX6_live_53 : decode cX6_live 53 = .ok (.iadd, 1) := by decide +kernel
theorem dX6_live_54 : decode cX6_live 54 = .ok (.iconst 0, 1) := by decide +kernel
theorem dX6_live_55 : decode cX6_live 55 = .ok (.iastore, 1) := by decide +kernel
theorem dX6_live_56 : decode cX6_live 56 = .ok (.aload_n 0, 1) := by decide +kernel
theorem dX6_live_57 : decode cX6_live 57 = .ok (.getfield 26, 3) := by decide +kernel
theorem dX6_live_60 : decode cX6_live 60 = .ok (.iload 4, 2) := by decide +kernel
theorem dX6_live_62 : decode cX6_live 62 = .ok (.bipush 31, 2) := by decide +kernel
theorem dX6_live_64 : decode cX6_live 64 = .ok (.imul, 1) := by decide +kernel
theorem dX6_live_65 : decode cX6_live 65 = .ok (.iload_n 3, 1) := by decide +kernel
theorem dX6_live_66 : decode cX6_live 66 = .ok (.iadd, 1) := by decide +kernel
theorem dX6_live_67 : decode cX6_live 67 = .ok (.iconst (-1), 1) := by decide +kernel
theorem dX6_live_68 : decode cX6_live 68 = .ok (.iastore, 1) := by decide +kernel
theorem dX6_live_69 : decode cX6_live 69 = .ok (.iinc 4 1, 3) := by decide +kernel
theorem dX6_live_72 : decode cX6_live 72 = .ok (.goto (-35), 3) := by decide +kernel
theorem dX6_live_75 : decode cX6_live 75 = .ok (.aload_n 0, 1) := by decide +kernel
theorem dX6_live_76 : decode cX6_live 76 = .ok (.getfield 29, 3) := by decide +kernel
theorem dX6_live_79 : decode cX6_live 79 = .ok (.iload_n 3, 1) := by decide +kernel
theorem dX6_live_80 : decode cX6_live 80 = .ok (.iconst 0, 1) := by decide +kernel
theorem dX6_live_81 : decode cX6_live 81 = .ok (.iastore, 1) := by decide +kernel
theorem dX6_live_82 : decode cX6_live 82 = .ok (.aload_n 0, 1) := by decide +kernel
theorem dX6_live_83 : decode cX6_live 83 = .ok (.getfield 32, 3) := by decide +kernel
theorem dX6_live_86 : decode cX6_live 86 = .ok (.iload_n 3, 1) := by decide +kernel
theorem dX6_live_87 : decode cX6_live 87 = .ok (.iconst (-1), 1) := by decide +kernel
theorem dX6_live_88 : decode cX6_live 88 = .ok (.iastore, 1) := by decide +kernel
theorem dX6_live_89 : decode cX6_live 89 = .ok (.aload_n 0, 1) := by decide +kernel
theorem dX6_live_90 : decode cX6_live 90 = .ok (.iload_n 3, 1) := by decide +kernel
theorem dX6_live_91 : decode cX6_live 91 = .ok (.invokevirtual 68, 3) := by decide +kernel
theorem dX6_live_94 : decode cX6_live 94 = .ok (.aload_n 0, 1) := by decide +kernel
theorem dX6_live_95 : decode cX6_live 95 = .ok (.iload_n 3, 1) := by decide +kernel
theorem dX6_live_96 : decode cX6_live 96 = .ok (.invokevirtual 72, 3) := by decide +kernel
theorem dX6_live_99 : decode cX6_live 99 = .ok (.iinc 3 (-1), 3) := by decide +kernel
theorem dX6_live_102 : decode cX6_live 102 = .ok (.goto (-72), 3) := by decide +kernel
theorem dX6_live_105 : decode cX6_live 105 = .ok (.return_, 1) := by decide +kernel
theorem dX6_weigh_0 : decode cX6_weigh 0 = .ok (.aload_n 0, 1) := by decide +kernel
theorem dX6_weigh_1 : decode cX6_weigh 1 = .ok (.aload_n 1, 1) := by decide +kernel
theorem dX6_weigh_2 : decode cX6_weigh 2 = .ok (.putfield 54, 3) := by decide +kernel
theorem dX6_weigh_5 : decode cX6_weigh 5 = .ok (.aload_n 0, 1) := by decide +kernel
theorem dX6_weigh_6 : decode cX6_weigh 6 = .ok (.iconst 4, 1) := by decide +kernel
theorem dX6_weigh_7 : decode cX6_weigh 7 = .ok (.putfield 79, 3) := by decide +kernel
theorem dX6_weigh_10 : decode cX6_weigh 10 = .ok (.aload_n 0, 1) := by decide +kernel
theorem dX6_weigh_11 : decode cX6_weigh 11 = .ok (.getfield 54, 3) := by decide +kernel
theorem dX6_weigh_14 : decode cX6_weigh 14 = .ok (.getfield 58, 3) := by decide +kernel
theorem dX6_weigh_17 : decode cX6_weigh 17 = .ok (.getfield 62, 3) := by decide +kernel
theorem dX6_weigh_20 : decode cX6_weigh 20 = .ok (.istore_n 3, 1) := by decide +kernel
theorem dX6_weigh_21 : decode cX6_weigh 21 = .ok (.aload_n 0, 1) := by decide +kernel
theorem dX6_weigh_22 : decode cX6_weigh 22 = .ok (.iload_n 3, 1) := by decide +kernel
theorem dX6_weigh_23 : decode cX6_weigh 23 = .ok (.invokevirtual 82, 3) := by decide +kernel
theorem dX6_weigh_26 : decode cX6_weigh 26 = .ok (.iload_n 3, 1) := by decide +kernel
theorem dX6_weigh_27 : decode cX6_weigh 27 = .ok (.iconst 1, 1) := by decide +kernel
theorem dX6_weigh_28 : decode cX6_weigh 28 = .ok (.isub, 1) := by decide +kernel
theorem dX6_weigh_29 : decode cX6_weigh 29 = .ok (.istore 4, 2) := by decide +kernel
theorem dX6_weigh_31 : decode cX6_weigh 31 = .ok (.iload 4, 2) := by decide +kernel
theorem dX6_weigh_33 : decode cX6_weigh 33 = .ok (.iload_n 2, 1) := by decide +kernel
theorem dX6_weigh_34 : decode cX6_weigh 34 = .ok (.if_icmp .lt 15, 3) := by decide +kernel
theorem dX6_weigh_37 : decode cX6_weigh 37 = .ok (.aload_n 0, 1) := by decide +kernel
theorem dX6_weigh_38 : decode cX6_weigh 38 = .ok (.iload 4, 2) := by decide +kernel
theorem dX6_weigh_40 : decode cX6_weigh 40 = .ok (.invokevirtual 68, 3) := by decide +kernel
theorem dX6_weigh_43 : decode cX6_weigh 43 = .ok (.iinc 4 (-1), 3) := by decide +kernel
theorem dX6_weigh_46 : decode cX6_weigh 46 = .ok (.goto (-15), 3) := by decide +kernel
theorem dX6_weigh_49 : decode cX6_weigh 49 = .ok (.aload_n 0, 1) := by decide +kernel
theorem dX6_weigh_50 : decode cX6_weigh 50 = .ok (.getfield 35, 3) := by decide +kernel
theorem dX6_weigh_53 : decode cX6_weigh 53 = .ok (.astore 4, 2) := by decide +kernel
theorem dX6_weigh_55 : decode cX6_weigh 55 = .ok (.aload_n 0, 1) := by decide +kernel
theorem dX6_weigh_56 : decode cX6_weigh 56 = .ok (.aload_n 0, 1) := by decide +kernel
theorem dX6_weigh_57 : decode cX6_weigh 57 = .ok (.getfield 41, 3) := by decide +kernel
theorem dX6_weigh_60 : decode cX6_weigh 60 = .ok (.putfield 35, 3) := by decide +kernel
theorem dX6_weigh_63 : decode cX6_weigh 63 = .ok (.aload_n 0, 1) := by decide +kernel
theorem dX6_weigh_64 : decode cX6_weigh 64 = .ok (.aload 4, 2) := by decide +kernel
theorem dX6_weigh_66 : decode cX6_weigh 66 = .ok (.putfield 41, 3) := by decide +kernel
theorem dX6_weigh_69 : decode cX6_weigh 69 = .ok (.aload_n 0, 1) := by decide +kernel
theorem dX6_weigh_70 : decode cX6_weigh 70 = .ok (.aload_n 1, 1) := by decide +kernel
theorem dX6_weigh_71 : decode cX6_weigh 71 = .ok (.iconst 0, 1) := by decide +kernel
theorem dX6_weigh_72 : decode cX6_weigh 72 = .ok (.iconst 1, 1) := by decide +kernel
theorem dX6_weigh_73 : decode cX6_weigh 73 = .ok (.invokevirtual 50, 3) := by decide +kernel
theorem dX6_weigh_76 : decode cX6_weigh 76 = .ok (.iconst 0, 1) := by decide +kernel
theorem dX6_weigh_77 : decode cX6_weigh 77 = .ok (.istore 5, 2) := by decide +kernel
theorem dX6_weigh_79 : decode cX6_weigh 79 = .ok (.iload 5, 2) := by decide +kernel
theorem dX6_weigh_81 : decode cX6_weigh 81 = .ok (.iload_n 2, 1) := by decide +kernel
theorem dX6_weigh_82 : decode cX6_weigh 82 = .ok (.if_icmp .ge 15, 3) := by decide +kernel
theorem dX6_weigh_85 : decode cX6_weigh 85 = .ok (.aload_n 0, 1) := by decide +kernel
theorem dX6_weigh_86 : decode cX6_weigh 86 = .ok (.iload 5, 2) := by decide +kernel
theorem dX6_weigh_88 : decode cX6_weigh 88 = .ok (.invokevirtual 68, 3) := by decide +kernel
theorem dX6_weigh_91 : decode cX6_weigh 91 = .ok (.iinc 5 1, 3) := by decide +kernel
theorem dX6_weigh_94 : decode cX6_weigh 94 = .ok (.goto (-15), 3) := by decide +kernel
theorem dX6_weigh_97 : decode cX6_weigh 97 = .ok (.return_, 1) := by decide +kernel
theorem dX6_waysIn_0 : decode cX6_waysIn 0 = .ok (.lconst 0, 1) := by decide +kernel
theorem dX6_waysIn_1 : decode cX6_waysIn 1 = .ok (.lstore_n 3, 1) := by decide +kernel
theorem dX6_waysIn_2 : decode cX6_waysIn 2 = .ok (.iconst 0, 1) := by decide +kernel
theorem dX6_waysIn_3 : decode cX6_waysIn 3 = .ok (.istore 5, 2) := by decide +kernel
theorem dX6_waysIn_5 : decode cX6_waysIn 5 = .ok (.iload 5, 2) := by decide +kernel
theorem dX6_waysIn_7 : decode cX6_waysIn 7 = .ok (.aload_n 1, 1) := by decide +kernel
theorem dX6_waysIn_8 : decode cX6_waysIn 8 = .ok (.getfield 85, 3) := by decide +kernel
theorem dX6_waysIn_11 : decode cX6_waysIn 11 = .ok (.if_icmp .ge 84, 3) := by decide +kernel
theorem dX6_waysIn_14 : decode cX6_waysIn 14 = .ok (.iload_n 2, 1) := by decide +kernel
theorem dX6_waysIn_15 : decode cX6_waysIn 15 = .ok (.ifCond .eq 15, 3) := by decide +kernel
theorem dX6_waysIn_18 : decode cX6_waysIn 18 = .ok (.aload_n 1, 1) := by decide +kernel
theorem dX6_waysIn_19 : decode cX6_waysIn 19 = .ok (.getfield 88, 3) := by decide +kernel
theorem dX6_waysIn_22 : decode cX6_waysIn 22 = .ok (.iload 5, 2) := by decide +kernel
theorem dX6_waysIn_24 : decode cX6_waysIn 24 = .ok (.iaload, 1) := by decide +kernel
theorem dX6_waysIn_25 : decode cX6_waysIn 25 = .ok (.iload_n 2, 1) := by decide +kernel
theorem dX6_waysIn_26 : decode cX6_waysIn 26 = .ok (.iand, 1) := by decide +kernel
theorem dX6_waysIn_27 : decode cX6_waysIn 27 = .ok (.ifCond .eq 7, 3) := by decide +kernel
theorem dX6_waysIn_30 : decode cX6_waysIn 30 = .ok (.iconst 1, 1) := by decide +kernel
theorem dX6_waysIn_31 : decode cX6_waysIn 31 = .ok (.goto 4, 3) := by decide +kernel
theorem dX6_waysIn_34 : decode cX6_waysIn 34 = .ok (.iconst 0, 1) := by decide +kernel
theorem dX6_waysIn_35 : decode cX6_waysIn 35 = .ok (.istore 6, 2) := by decide +kernel
theorem dX6_waysIn_37 : decode cX6_waysIn 37 = .ok (.iload 6, 2) := by decide +kernel
theorem dX6_waysIn_39 : decode cX6_waysIn 39 = .ok (.ifCond .eq 50, 3) := by decide +kernel
theorem dX6_waysIn_42 : decode cX6_waysIn 42 = .ok (.aload_n 0, 1) := by decide +kernel
theorem dX6_waysIn_43 : decode cX6_waysIn 43 = .ok (.getfield 35, 3) := by decide +kernel
theorem dX6_waysIn_46 : decode cX6_waysIn 46 = .ok (.iload 5, 2) := by decide +kernel
theorem dX6_waysIn_48 : decode cX6_waysIn 48 = .ok (.laload, 1) := by decide +kernel
theorem dX6_waysIn_49 : decode cX6_waysIn 49 = .ok (.lconst 0, 1) := by decide +kernel
theorem dX6_waysIn_50 : decode cX6_waysIn 50 = .ok (.lcmp, 1) := by decide +kernel
theorem dX6_waysIn_51 : decode cX6_waysIn 51 = .ok (.ifCond .eq 38, 3) := by decide +kernel
theorem dX6_waysIn_54 : decode cX6_waysIn 54 = .ok (.aload_n 0, 1) := by decide +kernel
theorem dX6_waysIn_55 : decode cX6_waysIn 55 = .ok (.getfield 41, 3) := by decide +kernel
theorem dX6_waysIn_58 : decode cX6_waysIn 58 = .ok (.iload 5, 2) := by decide +kernel
theorem dX6_waysIn_60 : decode cX6_waysIn 60 = .ok (.laload, 1) := by decide +kernel
theorem dX6_waysIn_61 : decode cX6_waysIn 61 = .ok (.lconst 0, 1) := by decide +kernel
theorem dX6_waysIn_62 : decode cX6_waysIn 62 = .ok (.lcmp, 1) := by decide +kernel
theorem dX6_waysIn_63 : decode cX6_waysIn 63 = .ok (.ifCond .eq 26, 3) := by decide +kernel
theorem dX6_waysIn_66 : decode cX6_waysIn 66 = .ok (.lload_n 3, 1) := by decide +kernel
theorem dX6_waysIn_67 : decode cX6_waysIn 67 = .ok (.aload_n 0, 1) := by decide +kernel
theorem dX6_waysIn_68 : decode cX6_waysIn 68 = .ok (.getfield 35, 3) := by decide +kernel
theorem dX6_waysIn_71 : decode cX6_waysIn 71 = .ok (.iload 5, 2) := by decide +kernel
theorem dX6_waysIn_73 : decode cX6_waysIn 73 = .ok (.laload, 1) := by decide +kernel
theorem dX6_waysIn_74 : decode cX6_waysIn 74 = .ok (.aload_n 0, 1) := by decide +kernel
theorem dX6_waysIn_75 : decode cX6_waysIn 75 = .ok (.getfield 41, 3) := by decide +kernel
theorem dX6_waysIn_78 : decode cX6_waysIn 78 = .ok (.iload 5, 2) := by decide +kernel
theorem dX6_waysIn_80 : decode cX6_waysIn 80 = .ok (.laload, 1) := by decide +kernel
theorem dX6_waysIn_81 : decode cX6_waysIn 81 = .ok (.invokestatic 91, 3) := by decide +kernel
theorem dX6_waysIn_84 : decode cX6_waysIn 84 = .ok (.ladd, 1) := by decide +kernel
theorem dX6_waysIn_85 : decode cX6_waysIn 85 = .ok (.invokestatic 95, 3) := by decide +kernel
theorem dX6_waysIn_88 : decode cX6_waysIn 88 = .ok (.lstore_n 3, 1) := by decide +kernel
theorem dX6_waysIn_89 : decode cX6_waysIn 89 = .ok (.iinc 5 1, 3) := by decide +kernel
theorem dX6_waysIn_92 : decode cX6_waysIn 92 = .ok (.goto (-87), 3) := by decide +kernel
theorem dX6_waysIn_95 : decode cX6_waysIn 95 = .ok (.lload_n 3, 1) := by decide +kernel
theorem dX6_waysIn_96 : decode cX6_waysIn 96 = .ok (.lreturn, 1) := by decide +kernel
theorem dX6_through_0 : decode cX6_through 0 = .ok (.lload_n 2, 1) := by decide +kernel
theorem dX6_through_1 : decode cX6_through 1 = .ok (.lconst 1, 1) := by decide +kernel
theorem dX6_through_2 : decode cX6_through 2 = .ok (.lcmp, 1) := by decide +kernel
theorem dX6_through_3 : decode cX6_through 3 = .ok (.ifCond .lt 13, 3) := by decide +kernel
theorem dX6_through_6 : decode cX6_through 6 = .ok (.lload_n 0, 1) := by decide +kernel
theorem dX6_through_7 : decode cX6_through 7 = .ok (.ldc2_w 99, 3) := by decide +kernel
theorem dX6_through_10 : decode cX6_through 10 = .ok (.lload_n 2, 1) := by decide +kernel
theorem dX6_through_11 : decode cX6_through 11 = .ok (.ldiv, 1) := by decide +kernel
theorem dX6_through_12 : decode cX6_through 12 = .ok (.lcmp, 1) := by decide +kernel
theorem dX6_through_13 : decode cX6_through 13 = .ok (.ifCond .le 7, 3) := by decide +kernel
theorem dX6_through_16 : decode cX6_through 16 = .ok (.ldc2_w 99, 3) := by decide +kernel
theorem dX6_through_19 : decode cX6_through 19 = .ok (.lreturn, 1) := by decide +kernel
theorem dX6_through_20 : decode cX6_through 20 = .ok (.lload_n 0, 1) := by decide +kernel
theorem dX6_through_21 : decode cX6_through 21 = .ok (.lload_n 2, 1) := by decide +kernel
theorem dX6_through_22 : decode cX6_through 22 = .ok (.lmul, 1) := by decide +kernel
theorem dX6_through_23 : decode cX6_through 23 = .ok (.lreturn, 1) := by decide +kernel
theorem dX6_standings_0 : decode cX6_standings 0 = .ok (.aload_n 0, 1) := by decide +kernel
theorem dX6_standings_1 : decode cX6_standings 1 = .ok (.iload_n 2, 1) := by decide +kernel
theorem dX6_standings_2 : decode cX6_standings 2 = .ok (.putfield 101, 3) := by decide +kernel
theorem dX6_standings_5 : decode cX6_standings 5 = .ok (.aload_n 0, 1) := by decide +kernel
theorem dX6_standings_6 : decode cX6_standings 6 = .ok (.lconst 1, 1) := by decide +kernel
theorem dX6_standings_7 : decode cX6_standings 7 = .ok (.iload_n 3, 1) := by decide +kernel
theorem dX6_standings_8 : decode cX6_standings 8 = .ok (.lshl, 1) := by decide +kernel
theorem dX6_standings_9 : decode cX6_standings 9 = .ok (.putfield 104, 3) := by decide +kernel
theorem dX6_standings_12 : decode cX6_standings 12 = .ok (.aload_n 0, 1) := by decide +kernel
theorem dX6_standings_13 : decode cX6_standings 13 = .ok (.aload_n 1, 1) := by decide +kernel
theorem dX6_standings_14 : decode cX6_standings 14 = .ok (.iconst 1, 1) := by decide +kernel
theorem dX6_standings_15 : decode cX6_standings 15 = .ok (.iconst 1, 1) := by decide +kernel
theorem dX6_standings_16 : decode cX6_standings 16 = .ok (.invokevirtual 50, 3) := by decide +kernel
theorem dX6_standings_19 : decode cX6_standings 19 = .ok (.iconst 0, 1) := by decide +kernel
theorem dX6_standings_20 : decode cX6_standings 20 = .ok (.istore 4, 2) := by decide +kernel
theorem dX6_standings_22 : decode cX6_standings 22 = .ok (.iload 4, 2) := by decide +kernel
theorem dX6_standings_24 : decode cX6_standings 24 = .ok (.aload_n 0, 1) := by decide +kernel
theorem dX6_standings_25 : decode cX6_standings 25 = .ok (.getfield 54, 3) := by decide +kernel
theorem dX6_standings_28 : decode cX6_standings 28 = .ok (.getfield 58, 3) := by decide +kernel
theorem dX6_standings_31 : decode cX6_standings 31 = .ok (.getfield 62, 3) := by decide +kernel
theorem dX6_standings_34 : decode cX6_standings 34 = .ok (.if_icmp .ge 15, 3) := by decide +kernel
theorem dX6_standings_37 : decode cX6_standings 37 = .ok (.aload_n 0, 1) := by decide +kernel
theorem dX6_standings_38 : decode cX6_standings 38 = .ok (.iload 4, 2) := by decide +kernel
theorem dX6_standings_40 : decode cX6_standings 40 = .ok (.invokevirtual 68, 3) := by decide +kernel
theorem dX6_standings_43 : decode cX6_standings 43 = .ok (.iinc 4 1, 3) := by decide +kernel
theorem dX6_standings_46 : decode cX6_standings 46 = .ok (.goto (-24), 3) := by decide +kernel
theorem dX6_standings_49 : decode cX6_standings 49 = .ok (.lconst 0, 1) := by decide +kernel
theorem dX6_standings_50 : decode cX6_standings 50 = .ok (.lstore 4, 2) := by decide +kernel
theorem dX6_standings_52 : decode cX6_standings 52 = .ok (.iconst 0, 1) := by decide +kernel
theorem dX6_standings_53 : decode cX6_standings 53 = .ok (.istore 6, 2) := by decide +kernel
theorem dX6_standings_55 : decode cX6_standings 55 = .ok (.iload 6, 2) := by decide +kernel
theorem dX6_standings_57 : decode cX6_standings 57 = .ok (.aload_n 0, 1) := by decide +kernel
theorem dX6_standings_58 : decode cX6_standings 58 = .ok (.getfield 54, 3) := by decide +kernel
theorem dX6_standings_61 : decode cX6_standings 61 = .ok (.getfield 85, 3) := by decide +kernel
theorem dX6_standings_64 : decode cX6_standings 64 = .ok (.if_icmp .ge 21, 3) := by decide +kernel
theorem dX6_standings_67 : decode cX6_standings 67 = .ok (.lload 4, 2) := by decide +kernel
theorem dX6_standings_69 : decode cX6_standings 69 = .ok (.aload_n 0, 1) := by decide +kernel
theorem dX6_standings_70 : decode cX6_standings 70 = .ok (.getfield 35, 3) := by decide +kernel
theorem dX6_standings_73 : decode cX6_standings 73 = .ok (.iload 6, 2) := by decide +kernel
theorem dX6_standings_75 : decode cX6_standings 75 = .ok (.laload, 1) := by decide +kernel
theorem dX6_standings_76 : decode cX6_standings 76 = .ok (.lor, 1) := by decide +kernel
theorem dX6_standings_77 : decode cX6_standings 77 = .ok (.lstore 4, 2) := by decide +kernel
theorem dX6_standings_79 : decode cX6_standings 79 = .ok (.iinc 6 1, 3) := by decide +kernel
theorem dX6_standings_82 : decode cX6_standings 82 = .ok (.goto (-27), 3) := by decide +kernel
theorem dX6_standings_85 : decode cX6_standings 85 = .ok (.lload 4, 2) := by decide +kernel
theorem dX6_standings_87 : decode cX6_standings 87 = .ok (.lreturn, 1) := by decide +kernel
theorem dX6_stayApart_0 : decode cX6_stayApart 0 = .ok (.aload_n 0, 1) := by decide +kernel
theorem dX6_stayApart_1 : decode cX6_stayApart 1 = .ok (.aload_n 1, 1) := by decide +kernel
theorem dX6_stayApart_2 : decode cX6_stayApart 2 = .ok (.iconst 0, 1) := by decide +kernel
theorem dX6_stayApart_3 : decode cX6_stayApart 3 = .ok (.iconst 1, 1) := by decide +kernel
theorem dX6_stayApart_4 : decode cX6_stayApart 4 = .ok (.invokevirtual 50, 3) := by decide +kernel
theorem dX6_stayApart_7 : decode cX6_stayApart 7 = .ok (.iconst 0, 1) := by decide +kernel
theorem dX6_stayApart_8 : decode cX6_stayApart 8 = .ok (.istore 4, 2) := by decide +kernel
theorem dX6_stayApart_10 : decode cX6_stayApart 10 = .ok (.iload 4, 2) := by decide +kernel
theorem dX6_stayApart_12 : decode cX6_stayApart 12 = .ok (.aload_n 0, 1) := by decide +kernel
theorem dX6_stayApart_13 : decode cX6_stayApart 13 = .ok (.getfield 54, 3) := by decide +kernel
theorem dX6_stayApart_16 : decode cX6_stayApart 16 = .ok (.getfield 58, 3) := by decide +kernel
theorem dX6_stayApart_19 : decode cX6_stayApart 19 = .ok (.getfield 62, 3) := by decide +kernel
theorem dX6_stayApart_22 : decode cX6_stayApart 22 = .ok (.if_icmp .gt 62, 3) := by decide +kernel
theorem dX6_stayApart_25 : decode cX6_stayApart 25 = .ok (.iload 4, 2) := by decide +kernel
theorem dX6_stayApart_27 : decode cX6_stayApart 27 = .ok (.ifCond .le 11, 3) := by decide +kernel
theorem dX6_stayApart_30 : decode cX6_stayApart 30 = .ok (.aload_n 0, 1) := by decide +kernel
theorem dX6_stayApart_31 : decode cX6_stayApart 31 = .ok (.iload 4, 2) := by decide +kernel
theorem dX6_stayApart_33 : decode cX6_stayApart 33 = .ok (.iconst 1, 1) := by decide +kernel
theorem dX6_stayApart_34 : decode cX6_stayApart 34 = .ok (.isub, 1) := by decide +kernel
theorem dX6_stayApart_35 : decode cX6_stayApart 35 = .ok (.invokevirtual 68, 3) := by decide +kernel
theorem dX6_stayApart_38 : decode cX6_stayApart 38 = .ok (.iconst 0, 1) := by decide +kernel
theorem dX6_stayApart_39 : decode cX6_stayApart 39 = .ok (.istore 5, 2) := by decide +kernel
theorem dX6_stayApart_41 : decode cX6_stayApart 41 = .ok (.iload 5, 2) := by decide +kernel
theorem dX6_stayApart_43 : decode cX6_stayApart 43 = .ok (.aload_n 0, 1) := by decide +kernel
theorem dX6_stayApart_44 : decode cX6_stayApart 44 = .ok (.getfield 54, 3) := by decide +kernel
theorem dX6_stayApart_47 : decode cX6_stayApart 47 = .ok (.getfield 85, 3) := by decide +kernel
theorem dX6_stayApart_50 : decode cX6_stayApart 50 = .ok (.if_icmp .ge 28, 3) := by decide +kernel
theorem dX6_stayApart_53 : decode cX6_stayApart 53 = .ok (.aload_n 0, 1) := by decide +kernel
theorem dX6_stayApart_54 : decode cX6_stayApart 54 = .ok (.iload 5, 2) := by decide +kernel
theorem dX6_stayApart_56 : decode cX6_stayApart 56 = .ok (.iload_n 2, 1) := by decide +kernel
theorem dX6_stayApart_57 : decode cX6_stayApart 57 = .ok (.iload_n 3, 1) := by decide +kernel
theorem dX6_stayApart_58 : decode cX6_stayApart 58 = .ok (.invokevirtual 108, 3) := by decide +kernel
theorem dX6_stayApart_61 : decode cX6_stayApart 61 = .ok (.ifCond .eq 11, 3) := by decide +kernel
theorem dX6_stayApart_64 : decode cX6_stayApart 64 = .ok (.aload_n 0, 1) := by decide +kernel
theorem dX6_stayApart_65 : decode cX6_stayApart 65 = .ok (.getfield 35, 3) := by decide +kernel
theorem dX6_stayApart_68 : decode cX6_stayApart 68 = .ok (.iload 5, 2) := by decide +kernel
theorem dX6_stayApart_70 : decode cX6_stayApart 70 = .ok (.lconst 0, 1) := by decide +kernel
theorem dX6_stayApart_71 : decode cX6_stayApart 71 = .ok (.lastore, 1) := by decide +kernel
theorem dX6_stayApart_72 : decode cX6_stayApart 72 = .ok (.iinc 5 1, 3) := by decide +kernel
theorem dX6_stayApart_75 : decode cX6_stayApart 75 = .ok (.goto (-34), 3) := by decide +kernel
theorem dX6_stayApart_78 : decode cX6_stayApart 78 = .ok (.iinc 4 1, 3) := by decide +kernel
theorem dX6_stayApart_81 : decode cX6_stayApart 81 = .ok (.goto (-71), 3) := by decide +kernel
theorem dX6_stayApart_84 : decode cX6_stayApart 84 = .ok (.aload_n 0, 1) := by decide +kernel
theorem dX6_stayApart_85 : decode cX6_stayApart 85 = .ok (.invokevirtual 75, 3) := by decide +kernel
theorem dX6_stayApart_88 : decode cX6_stayApart 88 = .ok (.ifCond .ne 7, 3) := by decide +kernel
theorem dX6_stayApart_91 : decode cX6_stayApart 91 = .ok (.iconst 1, 1) := by decide +kernel
theorem dX6_stayApart_92 : decode cX6_stayApart 92 = .ok (.goto 4, 3) := by decide +kernel
theorem dX6_stayApart_95 : decode cX6_stayApart 95 = .ok (.iconst 0, 1) := by decide +kernel
theorem dX6_stayApart_96 : decode cX6_stayApart 96 = .ok (.ireturn, 1) := by decide +kernel
theorem dX6_least_0 : decode cX6_least 0 = .ok (.aload_n 1, 1) := by decide +kernel
theorem dX6_least_1 : decode cX6_least 1 = .ok (.getfield 44, 3) := by decide +kernel
theorem dX6_least_4 : decode cX6_least 4 = .ok (.ifCond .ne 7, 3) := by decide +kernel
theorem dX6_least_7 : decode cX6_least 7 = .ok (.ldc2_w 124, 3) := by decide +kernel
theorem dX6_least_10 : decode cX6_least 10 = .ok (.lreturn, 1) := by decide +kernel
theorem dX6_least_11 : decode cX6_least 11 = .ok (.aload_n 0, 1) := by decide +kernel
theorem dX6_least_12 : decode cX6_least 12 = .ok (.iload_n 2, 1) := by decide +kernel
theorem dX6_least_13 : decode cX6_least 13 = .ok (.putfield 126, 3) := by decide +kernel
theorem dX6_least_16 : decode cX6_least 16 = .ok (.aload_n 0, 1) := by decide +kernel
theorem dX6_least_17 : decode cX6_least 17 = .ok (.iload_n 3, 1) := by decide +kernel
theorem dX6_least_18 : decode cX6_least 18 = .ok (.putfield 129, 3) := by decide +kernel
theorem dX6_least_21 : decode cX6_least 21 = .ok (.aload_n 0, 1) := by decide +kernel
theorem dX6_least_22 : decode cX6_least 22 = .ok (.aload_n 1, 1) := by decide +kernel
theorem dX6_least_23 : decode cX6_least 23 = .ok (.iconst 2, 1) := by decide +kernel
theorem dX6_least_24 : decode cX6_least 24 = .ok (.iconst 0, 1) := by decide +kernel
theorem dX6_least_25 : decode cX6_least 25 = .ok (.invokevirtual 50, 3) := by decide +kernel
theorem dX6_least_28 : decode cX6_least 28 = .ok (.iconst 0, 1) := by decide +kernel
theorem dX6_least_29 : decode cX6_least 29 = .ok (.istore 4, 2) := by decide +kernel
theorem dX6_least_31 : decode cX6_least 31 = .ok (.iload 4, 2) := by decide +kernel
theorem dX6_least_33 : decode cX6_least 33 = .ok (.aload_n 0, 1) := by decide +kernel
theorem dX6_least_34 : decode cX6_least 34 = .ok (.getfield 54, 3) := by decide +kernel
theorem dX6_least_37 : decode cX6_least 37 = .ok (.getfield 58, 3) := by decide +kernel
theorem dX6_least_40 : decode cX6_least 40 = .ok (.getfield 62, 3) := by decide +kernel
theorem dX6_least_43 : decode cX6_least 43 = .ok (.if_icmp .ge 15, 3) := by decide +kernel
theorem dX6_least_46 : decode cX6_least 46 = .ok (.aload_n 0, 1) := by decide +kernel
theorem dX6_least_47 : decode cX6_least 47 = .ok (.iload 4, 2) := by decide +kernel
theorem dX6_least_49 : decode cX6_least 49 = .ok (.invokevirtual 68, 3) := by decide +kernel
theorem dX6_least_52 : decode cX6_least 52 = .ok (.iinc 4 1, 3) := by decide +kernel
theorem dX6_least_55 : decode cX6_least 55 = .ok (.goto (-24), 3) := by decide +kernel
theorem dX6_least_58 : decode cX6_least 58 = .ok (.lconst 0, 1) := by decide +kernel
theorem dX6_least_59 : decode cX6_least 59 = .ok (.lstore 4, 2) := by decide +kernel
theorem dX6_least_61 : decode cX6_least 61 = .ok (.iconst 0, 1) := by decide +kernel
theorem dX6_least_62 : decode cX6_least 62 = .ok (.istore 6, 2) := by decide +kernel
theorem dX6_least_64 : decode cX6_least 64 = .ok (.iload 6, 2) := by decide +kernel
theorem dX6_least_66 : decode cX6_least 66 = .ok (.aload_n 0, 1) := by decide +kernel
theorem dX6_least_67 : decode cX6_least 67 = .ok (.getfield 54, 3) := by decide +kernel
theorem dX6_least_70 : decode cX6_least 70 = .ok (.getfield 85, 3) := by decide +kernel
theorem dX6_least_73 : decode cX6_least 73 = .ok (.if_icmp .ge 23, 3) := by decide +kernel
theorem dX6_least_76 : decode cX6_least 76 = .ok (.lload 4, 2) := by decide +kernel
theorem dX6_least_78 : decode cX6_least 78 = .ok (.aload_n 0, 1) := by decide +kernel
theorem dX6_least_79 : decode cX6_least 79 = .ok (.getfield 35, 3) := by decide +kernel
theorem dX6_least_82 : decode cX6_least 82 = .ok (.iload 6, 2) := by decide +kernel
theorem dX6_least_84 : decode cX6_least 84 = .ok (.laload, 1) := by decide +kernel
theorem dX6_least_85 : decode cX6_least 85 = .ok (.invokestatic 132, 3) := by decide +kernel
theorem dX6_least_88 : decode cX6_least 88 = .ok (.lstore 4, 2) := by decide +kernel
theorem dX6_least_90 : decode cX6_least 90 = .ok (.iinc 6 1, 3) := by decide +kernel
theorem dX6_least_93 : decode cX6_least 93 = .ok (.goto (-29), 3) := by decide +kernel
theorem dX6_least_96 : decode cX6_least 96 = .ok (.lload 4, 2) := by decide +kernel
theorem dX6_least_98 : decode cX6_least 98 = .ok (.lconst 1, 1) := by decide +kernel
theorem dX6_least_99 : decode cX6_least 99 = .ok (.lsub, 1) := by decide +kernel
theorem dX6_least_100 : decode cX6_least 100 = .ok (.lreturn, 1) := by decide +kernel
theorem dX6_lastSince_0 : decode cX6_lastSince 0 = .ok (.aload_n 0, 1) := by decide +kernel
theorem dX6_lastSince_1 : decode cX6_lastSince 1 = .ok (.aload_n 1, 1) := by decide +kernel
theorem dX6_lastSince_2 : decode cX6_lastSince 2 = .ok (.putfield 54, 3) := by decide +kernel
theorem dX6_lastSince_5 : decode cX6_lastSince 5 = .ok (.aload_n 0, 1) := by decide +kernel
theorem dX6_lastSince_6 : decode cX6_lastSince 6 = .ok (.iconst 3, 1) := by decide +kernel
theorem dX6_lastSince_7 : decode cX6_lastSince 7 = .ok (.putfield 79, 3) := by decide +kernel
theorem dX6_lastSince_10 : decode cX6_lastSince 10 = .ok (.aload_n 0, 1) := by decide +kernel
theorem dX6_lastSince_11 : decode cX6_lastSince 11 = .ok (.iconst 0, 1) := by decide +kernel
theorem dX6_lastSince_12 : decode cX6_lastSince 12 = .ok (.putfield 135, 3) := by decide +kernel
theorem dX6_lastSince_15 : decode cX6_lastSince 15 = .ok (.iconst 0, 1) := by decide +kernel
theorem dX6_lastSince_16 : decode cX6_lastSince 16 = .ok (.istore 4, 2) := by decide +kernel
theorem dX6_lastSince_18 : decode cX6_lastSince 18 = .ok (.iload 4, 2) := by decide +kernel
theorem dX6_lastSince_20 : decode cX6_lastSince 20 = .ok (.aload_n 0, 1) := by decide +kernel
theorem dX6_lastSince_21 : decode cX6_lastSince 21 = .ok (.getfield 54, 3) := by decide +kernel
theorem dX6_lastSince_24 : decode cX6_lastSince 24 = .ok (.getfield 85, 3) := by decide +kernel
theorem dX6_lastSince_27 : decode cX6_lastSince 27 = .ok (.if_icmp .ge 17, 3) := by decide +kernel
theorem dX6_lastSince_30 : decode cX6_lastSince 30 = .ok (.aload_n 0, 1) := by decide +kernel
theorem dX6_lastSince_31 : decode cX6_lastSince 31 = .ok (.getfield 35, 3) := by decide +kernel
theorem dX6_lastSince_34 : decode cX6_lastSince 34 = .ok (.iload 4, 2) := by decide +kernel
theorem dX6_lastSince_36 : decode cX6_lastSince 36 = .ok (.lconst 0, 1) := by decide +kernel
theorem dX6_lastSince_37 : decode cX6_lastSince 37 = .ok (.lastore, 1) := by decide +kernel
theorem dX6_lastSince_38 : decode cX6_lastSince 38 = .ok (.iinc 4 1, 3) := by decide +kernel
theorem dX6_lastSince_41 : decode cX6_lastSince 41 = .ok (.goto (-23), 3) := by decide +kernel
theorem dX6_lastSince_44 : decode cX6_lastSince 44 = .ok (.aload_n 0, 1) := by decide +kernel
theorem dX6_lastSince_45 : decode cX6_lastSince 45 = .ok (.getfield 54, 3) := by decide +kernel
theorem dX6_lastSince_48 : decode cX6_lastSince 48 = .ok (.getfield 58, 3) := by decide +kernel
theorem dX6_lastSince_51 : decode cX6_lastSince 51 = .ok (.getfield 62, 3) := by decide +kernel
theorem dX6_lastSince_54 : decode cX6_lastSince 54 = .ok (.istore 4, 2) := by decide +kernel
theorem dX6_lastSince_56 : decode cX6_lastSince 56 = .ok (.iload_n 2, 1) := by decide +kernel
theorem dX6_lastSince_57 : decode cX6_lastSince 57 = .ok (.istore 5, 2) := by decide +kernel
theorem dX6_lastSince_59 : decode cX6_lastSince 59 = .ok (.iload 5, 2) := by decide +kernel
theorem dX6_lastSince_61 : decode cX6_lastSince 61 = .ok (.iload 4, 2) := by decide +kernel
theorem dX6_lastSince_63 : decode cX6_lastSince 63 = .ok (.if_icmp .gt 73, 3) := by decide +kernel
theorem dX6_lastSince_66 : decode cX6_lastSince 66 = .ok (.iload 5, 2) := by decide +kernel
theorem dX6_lastSince_68 : decode cX6_lastSince 68 = .ok (.iload_n 2, 1) := by decide +kernel
theorem dX6_lastSince_69 : decode cX6_lastSince 69 = .ok (.if_icmp .le 11, 3) := by decide +kernel
theorem dX6_lastSince_72 : decode cX6_lastSince 72 = .ok (.aload_n 0, 1) := by decide +kernel
theorem dX6_lastSince_73 : decode cX6_lastSince 73 = .ok (.iload 5, 2) := by decide +kernel
theorem dX6_lastSince_75 : decode cX6_lastSince 75 = .ok (.iconst 1, 1) := by decide +kernel
theorem dX6_lastSince_76 : decode cX6_lastSince 76 = .ok (.isub, 1) := by decide +kernel
theorem dX6_lastSince_77 : decode cX6_lastSince 77 = .ok (.invokevirtual 68, 3) := by decide +kernel
theorem dX6_lastSince_80 : decode cX6_lastSince 80 = .ok (.iconst 0, 1) := by decide +kernel
theorem dX6_lastSince_81 : decode cX6_lastSince 81 = .ok (.istore 6, 2) := by decide +kernel
theorem dX6_lastSince_83 : decode cX6_lastSince 83 = .ok (.iload 5, 2) := by decide +kernel
theorem dX6_lastSince_85 : decode cX6_lastSince 85 = .ok (.iload_n 3, 1) := by decide +kernel
theorem dX6_lastSince_86 : decode cX6_lastSince 86 = .ok (.if_icmp .ge 44, 3) := by decide +kernel
theorem dX6_lastSince_89 : decode cX6_lastSince 89 = .ok (.iload 6, 2) := by decide +kernel
theorem dX6_lastSince_91 : decode cX6_lastSince 91 = .ok (.aload_n 0, 1) := by decide +kernel
theorem dX6_lastSince_92 : decode cX6_lastSince 92 = .ok (.getfield 54, 3) := by decide +kernel
theorem dX6_lastSince_95 : decode cX6_lastSince 95 = .ok (.getfield 85, 3) := by decide +kernel
theorem dX6_lastSince_98 : decode cX6_lastSince 98 = .ok (.if_icmp .ge 32, 3) := by decide +kernel
theorem dX6_lastSince_101 : decode cX6_lastSince 101 = .ok (.aload_n 0, 1) := by decide +kernel
theorem dX6_lastSince_102 : decode cX6_lastSince 102 = .ok (.iload 6, 2) := by decide +kernel
theorem dX6_lastSince_104 : decode cX6_lastSince 104 = .ok (.iload 5, 2) := by decide +kernel
theorem dX6_lastSince_106 : decode cX6_lastSince 106 = .ok (.invokevirtual 138, 3) := by decide +kernel
theorem dX6_lastSince_109 : decode cX6_lastSince 109 = .ok (.ifCond .eq 15, 3) := by decide +kernel
theorem dX6_lastSince_112 : decode cX6_lastSince 112 = .ok (.aload_n 0, 1) := by decide +kernel
theorem dX6_lastSince_113 : decode cX6_lastSince 113 = .ok (.getfield 35, 3) := by decide +kernel
theorem dX6_lastSince_116 : decode cX6_lastSince 116 = .ok (.iload 6, 2) := by decide +kernel
theorem dX6_lastSince_118 : decode cX6_lastSince 118 = .ok (.iload 5, 2) := by decide +kernel
theorem dX6_lastSince_120 : decode cX6_lastSince 120 = .ok (.iconst 1, 1) := by decide +kernel
theorem dX6_lastSince_121 : decode cX6_lastSince 121 = .ok (.iadd, 1) := by decide +kernel
theorem dX6_lastSince_122 : decode cX6_lastSince 122 = .ok (.i2l, 1) := by decide +kernel
theorem dX6_lastSince_123 : decode cX6_lastSince 123 = .ok (.lastore, 1) := by decide +kernel
theorem dX6_lastSince_124 : decode cX6_lastSince 124 = .ok (.iinc 6 1, 3) := by decide +kernel
theorem dX6_lastSince_127 : decode cX6_lastSince 127 = .ok (.goto (-44), 3) := by decide +kernel
theorem dX6_lastSince_130 : decode cX6_lastSince 130 = .ok (.iinc 5 1, 3) := by decide +kernel
theorem dX6_lastSince_133 : decode cX6_lastSince 133 = .ok (.goto (-74), 3) := by decide +kernel
theorem dX6_lastSince_136 : decode cX6_lastSince 136 = .ok (.lconst 0, 1) := by decide +kernel
theorem dX6_lastSince_137 : decode cX6_lastSince 137 = .ok (.lstore 5, 2) := by decide +kernel
theorem dX6_lastSince_139 : decode cX6_lastSince 139 = .ok (.iconst 0, 1) := by decide +kernel
theorem dX6_lastSince_140 : decode cX6_lastSince 140 = .ok (.istore 7, 2) := by decide +kernel
theorem dX6_lastSince_142 : decode cX6_lastSince 142 = .ok (.iload 7, 2) := by decide +kernel
theorem dX6_lastSince_144 : decode cX6_lastSince 144 = .ok (.aload_n 0, 1) := by decide +kernel
theorem dX6_lastSince_145 : decode cX6_lastSince 145 = .ok (.getfield 54, 3) := by decide +kernel
theorem dX6_lastSince_148 : decode cX6_lastSince 148 = .ok (.getfield 85, 3) := by decide +kernel
theorem dX6_lastSince_151 : decode cX6_lastSince 151 = .ok (.if_icmp .ge 23, 3) := by decide +kernel
theorem dX6_lastSince_154 : decode cX6_lastSince 154 = .ok (.lload 5, 2) := by decide +kernel
theorem dX6_lastSince_156 : decode cX6_lastSince 156 = .ok (.aload_n 0, 1) := by decide +kernel
theorem dX6_lastSince_157 : decode cX6_lastSince 157 = .ok (.getfield 35, 3) := by decide +kernel
theorem dX6_lastSince_160 : decode cX6_lastSince 160 = .ok (.iload 7, 2) := by decide +kernel
theorem dX6_lastSince_162 : decode cX6_lastSince 162 = .ok (.laload, 1) := by decide +kernel
theorem dX6_lastSince_163 : decode cX6_lastSince 163 = .ok (.invokestatic 142, 3) := by decide +kernel
theorem dX6_lastSince_166 : decode cX6_lastSince 166 = .ok (.lstore 5, 2) := by decide +kernel
theorem dX6_lastSince_168 : decode cX6_lastSince 168 = .ok (.iinc 7 1, 3) := by decide +kernel
theorem dX6_lastSince_171 : decode cX6_lastSince 171 = .ok (.goto (-29), 3) := by decide +kernel
theorem dX6_lastSince_174 : decode cX6_lastSince 174 = .ok (.lload 5, 2) := by decide +kernel
theorem dX6_lastSince_176 : decode cX6_lastSince 176 = .ok (.lconst 0, 1) := by decide +kernel
theorem dX6_lastSince_177 : decode cX6_lastSince 177 = .ok (.lcmp, 1) := by decide +kernel
theorem dX6_lastSince_178 : decode cX6_lastSince 178 = .ok (.ifCond .eq 12, 3) := by decide +kernel
theorem dX6_lastSince_181 : decode cX6_lastSince 181 = .ok (.lload 5, 2) := by decide +kernel
theorem dX6_lastSince_183 : decode cX6_lastSince 183 = .ok (.iload 4, 2) := by decide +kernel
theorem dX6_lastSince_185 : decode cX6_lastSince 185 = .ok (.i2l, 1) := by decide +kernel
theorem dX6_lastSince_186 : decode cX6_lastSince 186 = .ok (.lcmp, 1) := by decide +kernel
theorem dX6_lastSince_187 : decode cX6_lastSince 187 = .ok (.ifCond .le 8, 3) := by decide +kernel
theorem dX6_lastSince_190 : decode cX6_lastSince 190 = .ok (.bipush (-9), 2) := by decide +kernel
theorem dX6_lastSince_192 : decode cX6_lastSince 192 = .ok (.goto 8, 3) := by decide +kernel
theorem dX6_lastSince_195 : decode cX6_lastSince 195 = .ok (.lload 5, 2) := by decide +kernel
theorem dX6_lastSince_197 : decode cX6_lastSince 197 = .ok (.l2i, 1) := by decide +kernel
theorem dX6_lastSince_198 : decode cX6_lastSince 198 = .ok (.iconst 1, 1) := by decide +kernel
theorem dX6_lastSince_199 : decode cX6_lastSince 199 = .ok (.isub, 1) := by decide +kernel
theorem dX6_lastSince_200 : decode cX6_lastSince 200 = .ok (.ireturn, 1) := by decide +kernel
theorem dX6_mayBe_0 : decode cX6_mayBe 0 = .ok (.iconst 0, 1) := by decide +kernel
theorem dX6_mayBe_1 : decode cX6_mayBe 1 = .ok (.istore_n 3, 1) := by decide +kernel
theorem dX6_mayBe_2 : decode cX6_mayBe 2 = .ok (.iconst 0, 1) := by decide +kernel
theorem dX6_mayBe_3 : decode cX6_mayBe 3 = .ok (.istore 4, 2) := by decide +kernel
theorem dX6_mayBe_5 : decode cX6_mayBe 5 = .ok (.iload 4, 2) := by decide +kernel
theorem dX6_mayBe_7 : decode cX6_mayBe 7 = .ok (.aload_n 1, 1) := by decide +kernel
theorem dX6_mayBe_8 : decode cX6_mayBe 8 = .ok (.getfield 85, 3) := by decide +kernel
theorem dX6_mayBe_11 : decode cX6_mayBe 11 = .ok (.if_icmp .ge 29, 3) := by decide +kernel
theorem dX6_mayBe_14 : decode cX6_mayBe 14 = .ok (.aload_n 0, 1) := by decide +kernel
theorem dX6_mayBe_15 : decode cX6_mayBe 15 = .ok (.iload 4, 2) := by decide +kernel
theorem dX6_mayBe_17 : decode cX6_mayBe 17 = .ok (.iload_n 2, 1) := by decide +kernel
theorem dX6_mayBe_18 : decode cX6_mayBe 18 = .ok (.invokevirtual 138, 3) := by decide +kernel
theorem dX6_mayBe_21 : decode cX6_mayBe 21 = .ok (.ifCond .eq 13, 3) := by decide +kernel
theorem dX6_mayBe_24 : decode cX6_mayBe 24 = .ok (.iload_n 3, 1) := by decide +kernel
theorem dX6_mayBe_25 : decode cX6_mayBe 25 = .ok (.aload_n 1, 1) := by decide +kernel
theorem dX6_mayBe_26 : decode cX6_mayBe 26 = .ok (.getfield 88, 3) := by decide +kernel
theorem dX6_mayBe_29 : decode cX6_mayBe 29 = .ok (.iload 4, 2) := by decide +kernel
theorem dX6_mayBe_31 : decode cX6_mayBe 31 = .ok (.iaload, 1) := by decide +kernel
theorem dX6_mayBe_32 : decode cX6_mayBe 32 = .ok (.ior, 1) := by decide +kernel
theorem dX6_mayBe_33 : decode cX6_mayBe 33 = .ok (.istore_n 3, 1) := by decide +kernel
theorem dX6_mayBe_34 : decode cX6_mayBe 34 = .ok (.iinc 4 1, 3) := by decide +kernel
theorem dX6_mayBe_37 : decode cX6_mayBe 37 = .ok (.goto (-32), 3) := by decide +kernel
theorem dX6_mayBe_40 : decode cX6_mayBe 40 = .ok (.iload_n 3, 1) := by decide +kernel
theorem dX6_mayBe_41 : decode cX6_mayBe 41 = .ok (.ireturn, 1) := by decide +kernel
theorem dX6_mustBe_0 : decode cX6_mustBe 0 = .ok (.iconst (-1), 1) := by decide +kernel
theorem dX6_mustBe_1 : decode cX6_mustBe 1 = .ok (.istore_n 3, 1) := by decide +kernel
theorem dX6_mustBe_2 : decode cX6_mustBe 2 = .ok (.iconst 0, 1) := by decide +kernel
theorem dX6_mustBe_3 : decode cX6_mustBe 3 = .ok (.istore 4, 2) := by decide +kernel
theorem dX6_mustBe_5 : decode cX6_mustBe 5 = .ok (.iload 4, 2) := by decide +kernel
theorem dX6_mustBe_7 : decode cX6_mustBe 7 = .ok (.aload_n 1, 1) := by decide +kernel
theorem dX6_mustBe_8 : decode cX6_mustBe 8 = .ok (.getfield 85, 3) := by decide +kernel
theorem dX6_mustBe_11 : decode cX6_mustBe 11 = .ok (.if_icmp .ge 29, 3) := by decide +kernel
theorem dX6_mustBe_14 : decode cX6_mustBe 14 = .ok (.aload_n 0, 1) := by decide +kernel
theorem dX6_mustBe_15 : decode cX6_mustBe 15 = .ok (.iload 4, 2) := by decide +kernel
theorem dX6_mustBe_17 : decode cX6_mustBe 17 = .ok (.iload_n 2, 1) := by decide +kernel
theorem dX6_mustBe_18 : decode cX6_mustBe 18 = .ok (.invokevirtual 138, 3) := by decide +kernel
theorem dX6_mustBe_21 : decode cX6_mustBe 21 = .ok (.ifCond .eq 13, 3) := by decide +kernel
theorem dX6_mustBe_24 : decode cX6_mustBe 24 = .ok (.iload_n 3, 1) := by decide +kernel
theorem dX6_mustBe_25 : decode cX6_mustBe 25 = .ok (.aload_n 1, 1) := by decide +kernel
theorem dX6_mustBe_26 : decode cX6_mustBe 26 = .ok (.getfield 88, 3) := by decide +kernel
theorem dX6_mustBe_29 : decode cX6_mustBe 29 = .ok (.iload 4, 2) := by decide +kernel
theorem dX6_mustBe_31 : decode cX6_mustBe 31 = .ok (.iaload, 1) := by decide +kernel
theorem dX6_mustBe_32 : decode cX6_mustBe 32 = .ok (.iand, 1) := by decide +kernel
theorem dX6_mustBe_33 : decode cX6_mustBe 33 = .ok (.istore_n 3, 1) := by decide +kernel
theorem dX6_mustBe_34 : decode cX6_mustBe 34 = .ok (.iinc 4 1, 3) := by decide +kernel
theorem dX6_mustBe_37 : decode cX6_mustBe 37 = .ok (.goto (-32), 3) := by decide +kernel
theorem dX6_mustBe_40 : decode cX6_mustBe 40 = .ok (.iload_n 3, 1) := by decide +kernel
theorem dX6_mustBe_41 : decode cX6_mustBe 41 = .ok (.ireturn, 1) := by decide +kernel
theorem dX6_fewestIn_0 : decode cX6_fewestIn 0 = .ok (.iconst 3, 1) := by decide +kernel
theorem dX6_fewestIn_1 : decode cX6_fewestIn 1 = .ok (.istore 4, 2) := by decide +kernel
theorem dX6_fewestIn_3 : decode cX6_fewestIn 3 = .ok (.iconst 0, 1) := by decide +kernel
theorem dX6_fewestIn_4 : decode cX6_fewestIn 4 = .ok (.istore 5, 2) := by decide +kernel
theorem dX6_fewestIn_6 : decode cX6_fewestIn 6 = .ok (.iload 5, 2) := by decide +kernel
theorem dX6_fewestIn_8 : decode cX6_fewestIn 8 = .ok (.aload_n 1, 1) := by decide +kernel
theorem dX6_fewestIn_9 : decode cX6_fewestIn 9 = .ok (.getfield 85, 3) := by decide +kernel
theorem dX6_fewestIn_12 : decode cX6_fewestIn 12 = .ok (.if_icmp .ge 38, 3) := by decide +kernel
theorem dX6_fewestIn_15 : decode cX6_fewestIn 15 = .ok (.aload_n 0, 1) := by decide +kernel
theorem dX6_fewestIn_16 : decode cX6_fewestIn 16 = .ok (.iload 5, 2) := by decide +kernel
theorem dX6_fewestIn_18 : decode cX6_fewestIn 18 = .ok (.iload_n 2, 1) := by decide +kernel
theorem dX6_fewestIn_19 : decode cX6_fewestIn 19 = .ok (.invokevirtual 138, 3) := by decide +kernel
theorem dX6_fewestIn_22 : decode cX6_fewestIn 22 = .ok (.ifCond .eq 22, 3) := by decide +kernel
theorem dX6_fewestIn_25 : decode cX6_fewestIn 25 = .ok (.iload 4, 2) := by decide +kernel
theorem dX6_fewestIn_27 : decode cX6_fewestIn 27 = .ok (.aload_n 1, 1) := by decide +kernel
theorem dX6_fewestIn_28 : decode cX6_fewestIn 28 = .ok (.getfield 88, 3) := by decide +kernel
theorem dX6_fewestIn_31 : decode cX6_fewestIn 31 = .ok (.iload 5, 2) := by decide +kernel
theorem dX6_fewestIn_33 : decode cX6_fewestIn 33 = .ok (.iaload, 1) := by decide +kernel
theorem dX6_fewestIn_34 : decode cX6_fewestIn 34 = .ok (.iload_n 3, 1) := by decide +kernel
theorem dX6_fewestIn_35 : decode cX6_fewestIn 35 = .ok (.iand, 1) := by decide +kernel
theorem dX6_fewestIn_36 : decode cX6_fewestIn 36 = .ok (.invokestatic 147, 3) := by decide +kernel
theorem dX6_fewestIn_39 : decode cX6_fewestIn 39 = .ok (.invokestatic 152, 3) := by decide +kernel
theorem dX6_fewestIn_42 : decode cX6_fewestIn 42 = .ok (.istore 4, 2) := by decide +kernel
theorem dX6_fewestIn_44 : decode cX6_fewestIn 44 = .ok (.iinc 5 1, 3) := by decide +kernel
theorem dX6_fewestIn_47 : decode cX6_fewestIn 47 = .ok (.goto (-41), 3) := by decide +kernel
theorem dX6_fewestIn_50 : decode cX6_fewestIn 50 = .ok (.iload 4, 2) := by decide +kernel
theorem dX6_fewestIn_52 : decode cX6_fewestIn 52 = .ok (.ireturn, 1) := by decide +kernel
theorem dX6_mostIn_0 : decode cX6_mostIn 0 = .ok (.iconst 0, 1) := by decide +kernel
theorem dX6_mostIn_1 : decode cX6_mostIn 1 = .ok (.istore 4, 2) := by decide +kernel
theorem dX6_mostIn_3 : decode cX6_mostIn 3 = .ok (.iconst 0, 1) := by decide +kernel
theorem dX6_mostIn_4 : decode cX6_mostIn 4 = .ok (.istore 5, 2) := by decide +kernel
theorem dX6_mostIn_6 : decode cX6_mostIn 6 = .ok (.iload 5, 2) := by decide +kernel
theorem dX6_mostIn_8 : decode cX6_mostIn 8 = .ok (.aload_n 1, 1) := by decide +kernel
theorem dX6_mostIn_9 : decode cX6_mostIn 9 = .ok (.getfield 85, 3) := by decide +kernel
theorem dX6_mostIn_12 : decode cX6_mostIn 12 = .ok (.if_icmp .ge 38, 3) := by decide +kernel
theorem dX6_mostIn_15 : decode cX6_mostIn 15 = .ok (.aload_n 0, 1) := by decide +kernel
theorem dX6_mostIn_16 : decode cX6_mostIn 16 = .ok (.iload 5, 2) := by decide +kernel
theorem dX6_mostIn_18 : decode cX6_mostIn 18 = .ok (.iload_n 2, 1) := by decide +kernel
theorem dX6_mostIn_19 : decode cX6_mostIn 19 = .ok (.invokevirtual 138, 3) := by decide +kernel
theorem dX6_mostIn_22 : decode cX6_mostIn 22 = .ok (.ifCond .eq 22, 3) := by decide +kernel
theorem dX6_mostIn_25 : decode cX6_mostIn 25 = .ok (.iload 4, 2) := by decide +kernel
theorem dX6_mostIn_27 : decode cX6_mostIn 27 = .ok (.aload_n 1, 1) := by decide +kernel
theorem dX6_mostIn_28 : decode cX6_mostIn 28 = .ok (.getfield 88, 3) := by decide +kernel
theorem dX6_mostIn_31 : decode cX6_mostIn 31 = .ok (.iload 5, 2) := by decide +kernel
theorem dX6_mostIn_33 : decode cX6_mostIn 33 = .ok (.iaload, 1) := by decide +kernel
theorem dX6_mostIn_34 : decode cX6_mostIn 34 = .ok (.iload_n 3, 1) := by decide +kernel
theorem dX6_mostIn_35 : decode cX6_mostIn 35 = .ok (.iand, 1) := by decide +kernel
theorem dX6_mostIn_36 : decode cX6_mostIn 36 = .ok (.invokestatic 147, 3) := by decide +kernel
theorem dX6_mostIn_39 : decode cX6_mostIn 39 = .ok (.invokestatic 155, 3) := by decide +kernel
theorem dX6_mostIn_42 : decode cX6_mostIn 42 = .ok (.istore 4, 2) := by decide +kernel
theorem dX6_mostIn_44 : decode cX6_mostIn 44 = .ok (.iinc 5 1, 3) := by decide +kernel
theorem dX6_mostIn_47 : decode cX6_mostIn 47 = .ok (.goto (-41), 3) := by decide +kernel
theorem dX6_mostIn_50 : decode cX6_mostIn 50 = .ok (.iload 4, 2) := by decide +kernel
theorem dX6_mostIn_52 : decode cX6_mostIn 52 = .ok (.ireturn, 1) := by decide +kernel
theorem dX6_firstMeeting_0 : decode cX6_firstMeeting 0 = .ok (.aload_n 0, 1) := by decide +kernel
theorem dX6_firstMeeting_1 : decode cX6_firstMeeting 1 = .ok (.aload_n 1, 1) := by decide +kernel
theorem dX6_firstMeeting_2 : decode cX6_firstMeeting 2 = .ok (.putfield 54, 3) := by decide +kernel
theorem dX6_firstMeeting_5 : decode cX6_firstMeeting 5 = .ok (.iconst 0, 1) := by decide +kernel
theorem dX6_firstMeeting_6 : decode cX6_firstMeeting 6 = .ok (.istore 4, 2) := by decide +kernel
theorem dX6_firstMeeting_8 : decode cX6_firstMeeting 8 = .ok (.iload 4, 2) := by decide +kernel
theorem dX6_firstMeeting_10 : decode cX6_firstMeeting 10 = .ok (.aload_n 0, 1) := by decide +kernel
theorem dX6_firstMeeting_11 : decode cX6_firstMeeting 11 = .ok (.getfield 54, 3) := by decide +kernel
theorem dX6_firstMeeting_14 : decode cX6_firstMeeting 14 = .ok (.getfield 58, 3) := by decide +kernel
theorem dX6_firstMeeting_17 : decode cX6_firstMeeting 17 = .ok (.getfield 62, 3) := by decide +kernel
theorem dX6_firstMeeting_20 : decode cX6_firstMeeting 20 = .ok (.if_icmp .gt 55, 3) := by decide +kernel
theorem dX6_firstMeeting_23 : decode cX6_firstMeeting 23 = .ok (.iconst 0, 1) := by decide +kernel
theorem dX6_firstMeeting_24 : decode cX6_firstMeeting 24 = .ok (.istore 5, 2) := by decide +kernel
theorem dX6_firstMeeting_26 : decode cX6_firstMeeting 26 = .ok (.iload 5, 2) := by decide +kernel
theorem dX6_firstMeeting_28 : decode cX6_firstMeeting 28 = .ok (.aload_n 0, 1) := by decide +kernel
theorem dX6_firstMeeting_29 : decode cX6_firstMeeting 29 = .ok (.getfield 54, 3) := by decide +kernel
theorem dX6_firstMeeting_32 : decode cX6_firstMeeting 32 = .ok (.getfield 85, 3) := by decide +kernel
theorem dX6_firstMeeting_35 : decode cX6_firstMeeting 35 = .ok (.if_icmp .ge 34, 3) := by decide +kernel
theorem dX6_firstMeeting_38 : decode cX6_firstMeeting 38 = .ok (.aload_n 0, 1) := by decide +kernel
theorem dX6_firstMeeting_39 : decode cX6_firstMeeting 39 = .ok (.iload 5, 2) := by decide +kernel
theorem dX6_firstMeeting_41 : decode cX6_firstMeeting 41 = .ok (.iload 4, 2) := by decide +kernel
theorem dX6_firstMeeting_43 : decode cX6_firstMeeting 43 = .ok (.invokevirtual 138, 3) := by decide +kernel
theorem dX6_firstMeeting_46 : decode cX6_firstMeeting 46 = .ok (.ifCond .eq 17, 3) := by decide +kernel
theorem dX6_firstMeeting_49 : decode cX6_firstMeeting 49 = .ok (.aload_n 0, 1) := by decide +kernel
theorem dX6_firstMeeting_50 : decode cX6_firstMeeting 50 = .ok (.iload 5, 2) := by decide +kernel
theorem dX6_firstMeeting_52 : decode cX6_firstMeeting 52 = .ok (.iload_n 2, 1) := by decide +kernel
theorem dX6_firstMeeting_53 : decode cX6_firstMeeting 53 = .ok (.iload_n 3, 1) := by decide +kernel
theorem dX6_firstMeeting_54 : decode cX6_firstMeeting 54 = .ok (.invokevirtual 108, 3) := by decide +kernel
theorem dX6_firstMeeting_57 : decode cX6_firstMeeting 57 = .ok (.ifCond .eq 6, 3) := by decide +kernel
theorem dX6_firstMeeting_60 : decode cX6_firstMeeting 60 = .ok (.iload 4, 2) := by decide +kernel
theorem dX6_firstMeeting_62 : decode cX6_firstMeeting 62 = .ok (.ireturn, 1) := by decide +kernel
theorem dX6_firstMeeting_63 : decode cX6_firstMeeting 63 = .ok (.iinc 5 1, 3) := by decide +kernel
theorem dX6_firstMeeting_66 : decode cX6_firstMeeting 66 = .ok (.goto (-40), 3) := by decide +kernel
theorem dX6_firstMeeting_69 : decode cX6_firstMeeting 69 = .ok (.iinc 4 1, 3) := by decide +kernel
theorem dX6_firstMeeting_72 : decode cX6_firstMeeting 72 = .ok (.goto (-64), 3) := by decide +kernel
theorem dX6_firstMeeting_75 : decode cX6_firstMeeting 75 = .ok (.bipush (-9), 2) := by decide +kernel
theorem dX6_firstMeeting_77 : decode cX6_firstMeeting 77 = .ok (.ireturn, 1) := by decide +kernel
theorem dX6_walkersThrough_0 : decode cX6_walkersThrough 0 = .ok (.iconst 0, 1) := by decide +kernel
theorem dX6_walkersThrough_1 : decode cX6_walkersThrough 1 = .ok (.istore 4, 2) := by decide +kernel
theorem dX6_walkersThrough_3 : decode cX6_walkersThrough 3 = .ok (.iconst 0, 1) := by decide +kernel
theorem dX6_walkersThrough_4 : decode cX6_walkersThrough 4 = .ok (.istore 5, 2) := by decide +kernel
theorem dX6_walkersThrough_6 : decode cX6_walkersThrough 6 = .ok (.iload 5, 2) := by decide +kernel
theorem dX6_walkersThrough_8 : decode cX6_walkersThrough 8 = .ok (.iconst 3, 1) := by decide +kernel
theorem dX6_walkersThrough_9 : decode cX6_walkersThrough 9 = .ok (.if_icmp .ge 30, 3) := by decide +kernel
theorem dX6_walkersThrough_12 : decode cX6_walkersThrough 12 = .ok (.iload 4, 2) := by decide +kernel
theorem dX6_walkersThrough_14 : decode cX6_walkersThrough 14 = .ok (.aload_n 1, 1) := by decide +kernel
theorem dX6_walkersThrough_15 : decode cX6_walkersThrough 15 = .ok (.iload 5, 2) := by decide +kernel
theorem dX6_walkersThrough_17 : decode cX6_walkersThrough 17 = .ok (.bipush 31, 2) := by decide +kernel
theorem dX6_walkersThrough_19 : decode cX6_walkersThrough 19 = .ok (.imul, 1) := by decide +kernel
theorem dX6_walkersThrough_20 : decode cX6_walkersThrough 20 = .ok (.iload_n 3, 1) := by decide +kernel
theorem dX6_walkersThrough_21 : decode cX6_walkersThrough 21 = .ok (.iadd, 1) := by decide +kernel
theorem dX6_walkersThrough_22 : decode cX6_walkersThrough 22 = .ok (.iaload, 1) := by decide +kernel
theorem dX6_walkersThrough_23 : decode cX6_walkersThrough 23 = .ok (.iload_n 2, 1) := by decide +kernel
theorem dX6_walkersThrough_24 : decode cX6_walkersThrough 24 = .ok (.ishr, 1) := by decide +kernel
theorem dX6_walkersThrough_25 : decode cX6_walkersThrough 25 = .ok (.iconst 1, 1) := by decide +kernel
theorem dX6_walkersThrough_26 : decode cX6_walkersThrough 26 = .ok (.iand, 1) := by decide +kernel
theorem dX6_walkersThrough_27 : decode cX6_walkersThrough 27 = .ok (.iload 5, 2) := by decide +kernel
theorem dX6_walkersThrough_29 : decode cX6_walkersThrough 29 = .ok (.ishl, 1) := by decide +kernel
theorem dX6_walkersThrough_30 : decode cX6_walkersThrough 30 = .ok (.ior, 1) := by decide +kernel
theorem dX6_walkersThrough_31 : decode cX6_walkersThrough 31 = .ok (.istore 4, 2) := by decide +kernel
theorem dX6_walkersThrough_33 : decode cX6_walkersThrough 33 = .ok (.iinc 5 1, 3) := by decide +kernel
theorem dX6_walkersThrough_36 : decode cX6_walkersThrough 36 = .ok (.goto (-30), 3) := by decide +kernel
theorem dX6_walkersThrough_39 : decode cX6_walkersThrough 39 = .ok (.iload 4, 2) := by decide +kernel
theorem dX6_walkersThrough_41 : decode cX6_walkersThrough 41 = .ok (.ireturn, 1) := by decide +kernel
theorem dX6_minutesOf_0 : decode cX6_minutesOf 0 = .ok (.iconst 0, 1) := by decide +kernel
theorem dX6_minutesOf_1 : decode cX6_minutesOf 1 = .ok (.istore 4, 2) := by decide +kernel
theorem dX6_minutesOf_3 : decode cX6_minutesOf 3 = .ok (.iconst 0, 1) := by decide +kernel
theorem dX6_minutesOf_4 : decode cX6_minutesOf 4 = .ok (.istore 5, 2) := by decide +kernel
theorem dX6_minutesOf_6 : decode cX6_minutesOf 6 = .ok (.iload 5, 2) := by decide +kernel
theorem dX6_minutesOf_8 : decode cX6_minutesOf 8 = .ok (.iload_n 3, 1) := by decide +kernel
theorem dX6_minutesOf_9 : decode cX6_minutesOf 9 = .ok (.if_icmp .ge 22, 3) := by decide +kernel
theorem dX6_minutesOf_12 : decode cX6_minutesOf 12 = .ok (.iload 4, 2) := by decide +kernel
theorem dX6_minutesOf_14 : decode cX6_minutesOf 14 = .ok (.aload_n 1, 1) := by decide +kernel
theorem dX6_minutesOf_15 : decode cX6_minutesOf 15 = .ok (.iload 5, 2) := by decide +kernel
theorem dX6_minutesOf_17 : decode cX6_minutesOf 17 = .ok (.iaload, 1) := by decide +kernel
theorem dX6_minutesOf_18 : decode cX6_minutesOf 18 = .ok (.iload_n 2, 1) := by decide +kernel
theorem dX6_minutesOf_19 : decode cX6_minutesOf 19 = .ok (.ishr, 1) := by decide +kernel
theorem dX6_minutesOf_20 : decode cX6_minutesOf 20 = .ok (.iconst 1, 1) := by decide +kernel
theorem dX6_minutesOf_21 : decode cX6_minutesOf 21 = .ok (.iand, 1) := by decide +kernel
theorem dX6_minutesOf_22 : decode cX6_minutesOf 22 = .ok (.iadd, 1) := by decide +kernel
theorem dX6_minutesOf_23 : decode cX6_minutesOf 23 = .ok (.istore 4, 2) := by decide +kernel
theorem dX6_minutesOf_25 : decode cX6_minutesOf 25 = .ok (.iinc 5 1, 3) := by decide +kernel
theorem dX6_minutesOf_28 : decode cX6_minutesOf 28 = .ok (.goto (-22), 3) := by decide +kernel
theorem dX6_minutesOf_31 : decode cX6_minutesOf 31 = .ok (.iload 4, 2) := by decide +kernel
theorem dX6_minutesOf_33 : decode cX6_minutesOf 33 = .ok (.ireturn, 1) := by decide +kernel
theorem dX6_begin_0 : decode cX6_begin 0 = .ok (.aload_n 0, 1) := by decide +kernel
theorem dX6_begin_1 : decode cX6_begin 1 = .ok (.aload_n 1, 1) := by decide +kernel
theorem dX6_begin_2 : decode cX6_begin 2 = .ok (.putfield 54, 3) := by decide +kernel
theorem dX6_begin_5 : decode cX6_begin 5 = .ok (.aload_n 0, 1) := by decide +kernel
theorem dX6_begin_6 : decode cX6_begin 6 = .ok (.iload_n 2, 1) := by decide +kernel
theorem dX6_begin_7 : decode cX6_begin 7 = .ok (.putfield 79, 3) := by decide +kernel
theorem dX6_begin_10 : decode cX6_begin 10 = .ok (.aload_n 0, 1) := by decide +kernel
theorem dX6_begin_11 : decode cX6_begin 11 = .ok (.iload_n 3, 1) := by decide +kernel
theorem dX6_begin_12 : decode cX6_begin 12 = .ok (.putfield 135, 3) := by decide +kernel
theorem dX6_begin_15 : decode cX6_begin 15 = .ok (.iconst 0, 1) := by decide +kernel
theorem dX6_begin_16 : decode cX6_begin 16 = .ok (.istore 4, 2) := by decide +kernel
theorem dX6_begin_18 : decode cX6_begin 18 = .ok (.iload 4, 2) := by decide +kernel
theorem dX6_begin_20 : decode cX6_begin 20 = .ok (.aload_n 0, 1) := by decide +kernel
theorem dX6_begin_21 : decode cX6_begin 21 = .ok (.getfield 54, 3) := by decide +kernel
theorem dX6_begin_24 : decode cX6_begin 24 = .ok (.getfield 85, 3) := by decide +kernel
theorem dX6_begin_27 : decode cX6_begin 27 = .ok (.if_icmp .ge 17, 3) := by decide +kernel
theorem dX6_begin_30 : decode cX6_begin 30 = .ok (.aload_n 0, 1) := by decide +kernel
theorem dX6_begin_31 : decode cX6_begin 31 = .ok (.getfield 35, 3) := by decide +kernel
theorem dX6_begin_34 : decode cX6_begin 34 = .ok (.iload 4, 2) := by decide +kernel
theorem dX6_begin_36 : decode cX6_begin 36 = .ok (.lconst 0, 1) := by decide +kernel
theorem dX6_begin_37 : decode cX6_begin 37 = .ok (.lastore, 1) := by decide +kernel
theorem dX6_begin_38 : decode cX6_begin 38 = .ok (.iinc 4 1, 3) := by decide +kernel
theorem dX6_begin_41 : decode cX6_begin 41 = .ok (.goto (-23), 3) := by decide +kernel
theorem dX6_begin_44 : decode cX6_begin 44 = .ok (.iconst 0, 1) := by decide +kernel
theorem dX6_begin_45 : decode cX6_begin 45 = .ok (.istore 4, 2) := by decide +kernel
theorem dX6_begin_47 : decode cX6_begin 47 = .ok (.iload 4, 2) := by decide +kernel
theorem dX6_begin_49 : decode cX6_begin 49 = .ok (.aload_n 0, 1) := by decide +kernel
theorem dX6_begin_50 : decode cX6_begin 50 = .ok (.iconst 2, 1) := by decide +kernel
theorem dX6_begin_51 : decode cX6_begin 51 = .ok (.invokevirtual 157, 3) := by decide +kernel
theorem dX6_begin_54 : decode cX6_begin 54 = .ok (.if_icmp .ge 105, 3) := by decide +kernel
theorem dX6_begin_57 : decode cX6_begin 57 = .ok (.iconst 0, 1) := by decide +kernel
theorem dX6_begin_58 : decode cX6_begin 58 = .ok (.istore 5, 2) := by decide +kernel
theorem dX6_begin_60 : decode cX6_begin 60 = .ok (.iload 5, 2) := by decide +kernel
theorem dX6_begin_62 : decode cX6_begin 62 = .ok (.aload_n 0, 1) := by decide +kernel
theorem dX6_begin_63 : decode cX6_begin 63 = .ok (.iconst 1, 1) := by decide +kernel
theorem dX6_begin_64 : decode cX6_begin 64 = .ok (.invokevirtual 157, 3) := by decide +kernel
theorem dX6_begin_67 : decode cX6_begin 67 = .ok (.if_icmp .ge 86, 3) := by decide +kernel
theorem dX6_begin_70 : decode cX6_begin 70 = .ok (.iconst 0, 1) := by decide +kernel
theorem dX6_begin_71 : decode cX6_begin 71 = .ok (.istore 6, 2) := by decide +kernel
theorem dX6_begin_73 : decode cX6_begin 73 = .ok (.iload 6, 2) := by decide +kernel
theorem dX6_begin_75 : decode cX6_begin 75 = .ok (.aload_n 0, 1) := by decide +kernel
theorem dX6_begin_76 : decode cX6_begin 76 = .ok (.iconst 0, 1) := by decide +kernel
theorem dX6_begin_77 : decode cX6_begin 77 = .ok (.invokevirtual 157, 3) := by decide +kernel
theorem dX6_begin_80 : decode cX6_begin 80 = .ok (.if_icmp .ge 67, 3) := by decide +kernel
theorem dX6_begin_83 : decode cX6_begin 83 = .ok (.iload 6, 2) := by decide +kernel
theorem dX6_begin_85 : decode cX6_begin 85 = .ok (.aload_n 0, 1) := by decide +kernel
theorem dX6_begin_86 : decode cX6_begin 86 = .ok (.getfield 54, 3) := by decide +kernel
theorem dX6_begin_89 : decode cX6_begin 89 = .ok (.getfield 160, 3) := by decide +kernel
theorem dX6_begin_92 : decode cX6_begin 92 = .ok (.iconst 0, 1) := by decide +kernel
theorem dX6_begin_93 : decode cX6_begin 93 = .ok (.iaload, 1) := by decide +kernel
theorem dX6_begin_94 : decode cX6_begin 94 = .ok (.imul, 1) := by decide +kernel
theorem dX6_begin_95 : decode cX6_begin 95 = .ok (.iload 5, 2) := by decide +kernel
theorem dX6_begin_97 : decode cX6_begin 97 = .ok (.aload_n 0, 1) := by decide +kernel
theorem dX6_begin_98 : decode cX6_begin 98 = .ok (.getfield 54, 3) := by decide +kernel
theorem dX6_begin_101 : decode cX6_begin 101 = .ok (.getfield 160, 3) := by decide +kernel
theorem dX6_begin_104 : decode cX6_begin 104 = .ok (.iconst 1, 1) := by decide +kernel
theorem dX6_begin_105 : decode cX6_begin 105 = .ok (.iaload, 1) := by decide +kernel
theorem dX6_begin_106 : decode cX6_begin 106 = .ok (.imul, 1) := by decide +kernel
theorem dX6_begin_107 : decode cX6_begin 107 = .ok (.iadd, 1) := by decide +kernel
theorem dX6_begin_108 : decode cX6_begin 108 = .ok (.iload 4, 2) := by decide +kernel
theorem dX6_begin_110 : decode cX6_begin 110 = .ok (.aload_n 0, 1) := by decide +kernel
theorem dX6_begin_111 : decode cX6_begin 111 = .ok (.getfield 54, 3) := by decide +kernel
theorem dX6_begin_114 : decode cX6_begin 114 = .ok (.getfield 160, 3) := by decide +kernel
theorem dX6_begin_117 : decode cX6_begin 117 = .ok (.iconst 2, 1) := by decide +kernel
theorem dX6_begin_118 : decode cX6_begin 118 = .ok (.iaload, 1) := by decide +kernel
theorem dX6_begin_119 : decode cX6_begin 119 = .ok (.imul, 1) := by decide +kernel
theorem dX6_begin_120 : decode cX6_begin 120 = .ok (.iadd, 1) := by decide +kernel
theorem dX6_begin_121 : decode cX6_begin 121 = .ok (.istore 7, 2) := by decide +kernel
theorem dX6_begin_123 : decode cX6_begin 123 = .ok (.aload_n 0, 1) := by decide +kernel
theorem dX6_begin_124 : decode cX6_begin 124 = .ok (.iload 7, 2) := by decide +kernel
theorem dX6_begin_126 : decode cX6_begin 126 = .ok (.iconst 0, 1) := by decide +kernel
theorem dX6_begin_127 : decode cX6_begin 127 = .ok (.invokevirtual 163, 3) := by decide +kernel
theorem dX6_begin_130 : decode cX6_begin 130 = .ok (.ifCond .eq 11, 3) := by decide +kernel
theorem dX6_begin_133 : decode cX6_begin 133 = .ok (.aload_n 0, 1) := by decide +kernel
theorem dX6_begin_134 : decode cX6_begin 134 = .ok (.getfield 35, 3) := by decide +kernel
theorem dX6_begin_137 : decode cX6_begin 137 = .ok (.iload 7, 2) := by decide +kernel
theorem dX6_begin_139 : decode cX6_begin 139 = .ok (.lconst 1, 1) := by decide +kernel
theorem dX6_begin_140 : decode cX6_begin 140 = .ok (.lastore, 1) := by decide +kernel
theorem dX6_begin_141 : decode cX6_begin 141 = .ok (.iinc 6 1, 3) := by decide +kernel
theorem dX6_begin_144 : decode cX6_begin 144 = .ok (.goto (-71), 3) := by decide +kernel
theorem dX6_begin_147 : decode cX6_begin 147 = .ok (.iinc 5 1, 3) := by decide +kernel
theorem dX6_begin_150 : decode cX6_begin 150 = .ok (.goto (-90), 3) := by decide +kernel
theorem dX6_begin_153 : decode cX6_begin 153 = .ok (.iinc 4 1, 3) := by decide +kernel
theorem dX6_begin_156 : decode cX6_begin 156 = .ok (.goto (-109), 3) := by decide +kernel
theorem dX6_begin_159 : decode cX6_begin 159 = .ok (.return_, 1) := by decide +kernel
theorem dX6_rested_0 : decode cX6_rested 0 = .ok (.iload_n 1, 1) := by decide +kernel
theorem dX6_rested_1 : decode cX6_rested 1 = .ok (.aload_n 0, 1) := by decide +kernel
theorem dX6_rested_2 : decode cX6_rested 2 = .ok (.getfield 54, 3) := by decide +kernel
theorem dX6_rested_5 : decode cX6_rested 5 = .ok (.getfield 166, 3) := by decide +kernel
theorem dX6_rested_8 : decode cX6_rested 8 = .ok (.if_icmp .ge 16, 3) := by decide +kernel
theorem dX6_rested_11 : decode cX6_rested 11 = .ok (.aload_n 0, 1) := by decide +kernel
theorem dX6_rested_12 : decode cX6_rested 12 = .ok (.getfield 54, 3) := by decide +kernel
theorem dX6_rested_15 : decode cX6_rested 15 = .ok (.getfield 58, 3) := by decide +kernel
theorem dX6_rested_18 : decode cX6_rested 18 = .ok (.getfield 169, 3) := by decide +kernel
theorem dX6_rested_21 : decode cX6_rested 21 = .ok (.goto 4, 3) := by decide +kernel
theorem dX6_rested_24 : decode cX6_rested 24 = .ok (.iconst 1, 1) := by decide +kernel
theorem dX6_rested_25 : decode cX6_rested 25 = .ok (.ireturn, 1) := by decide +kernel
theorem dX6_stays_0 : decode cX6_stays 0 = .ok (.aload_n 0, 1) := by decide +kernel
theorem dX6_stays_1 : decode cX6_stays 1 = .ok (.getfield 135, 3) := by decide +kernel
theorem dX6_stays_4 : decode cX6_stays 4 = .ok (.ifCond .eq 12, 3) := by decide +kernel
theorem dX6_stays_7 : decode cX6_stays 7 = .ok (.aload_n 0, 1) := by decide +kernel
theorem dX6_stays_8 : decode cX6_stays 8 = .ok (.iload_n 1, 1) := by decide +kernel
theorem dX6_stays_9 : decode cX6_stays 9 = .ok (.iload_n 2, 1) := by decide +kernel
theorem dX6_stays_10 : decode cX6_stays 10 = .ok (.invokevirtual 138, 3) := by decide +kernel
theorem dX6_stays_13 : decode cX6_stays 13 = .ok (.goto 12, 3) := by decide +kernel
theorem dX6_stays_16 : decode cX6_stays 16 = .ok (.aload_n 0, 1) := by decide +kernel
theorem dX6_stays_17 : decode cX6_stays 17 = .ok (.getfield 54, 3) := by decide +kernel
theorem dX6_stays_20 : decode cX6_stays 20 = .ok (.iload_n 1, 1) := by decide +kernel
theorem dX6_stays_21 : decode cX6_stays 21 = .ok (.iload_n 2, 1) := by decide +kernel
theorem dX6_stays_22 : decode cX6_stays 22 = .ok (.invokevirtual 172, 3) := by decide +kernel
theorem dX6_stays_25 : decode cX6_stays 25 = .ok (.ireturn, 1) := by decide +kernel
theorem dX6_sweep_0 : decode cX6_sweep 0 = .ok (.aload_n 0, 1) := by decide +kernel
theorem dX6_sweep_1 : decode cX6_sweep 1 = .ok (.iload_n 1, 1) := by decide +kernel
theorem dX6_sweep_2 : decode cX6_sweep 2 = .ok (.putfield 175, 3) := by decide +kernel
theorem dX6_sweep_5 : decode cX6_sweep 5 = .ok (.aload_n 0, 1) := by decide +kernel
theorem dX6_sweep_6 : decode cX6_sweep 6 = .ok (.getfield 12, 3) := by decide +kernel
theorem dX6_sweep_9 : decode cX6_sweep 9 = .ok (.aload_n 0, 1) := by decide +kernel
theorem dX6_sweep_10 : decode cX6_sweep 10 = .ok (.getfield 54, 3) := by decide +kernel
theorem dX6_sweep_13 : decode cX6_sweep 13 = .ok (.iload_n 1, 1) := by decide +kernel
theorem dX6_sweep_14 : decode cX6_sweep 14 = .ok (.invokevirtual 178, 3) := by decide +kernel
theorem dX6_sweep_17 : decode cX6_sweep 17 = .ok (.iconst 0, 1) := by decide +kernel
theorem dX6_sweep_18 : decode cX6_sweep 18 = .ok (.istore_n 2, 1) := by decide +kernel
theorem dX6_sweep_19 : decode cX6_sweep 19 = .ok (.iload_n 2, 1) := by decide +kernel
theorem dX6_sweep_20 : decode cX6_sweep 20 = .ok (.aload_n 0, 1) := by decide +kernel
theorem dX6_sweep_21 : decode cX6_sweep 21 = .ok (.getfield 54, 3) := by decide +kernel
theorem dX6_sweep_24 : decode cX6_sweep 24 = .ok (.getfield 85, 3) := by decide +kernel
theorem dX6_sweep_27 : decode cX6_sweep 27 = .ok (.if_icmp .ge 16, 3) := by decide +kernel
theorem dX6_sweep_30 : decode cX6_sweep 30 = .ok (.aload_n 0, 1) := by decide +kernel
theorem dX6_sweep_31 : decode cX6_sweep 31 = .ok (.getfield 38, 3) := by decide +kernel
theorem dX6_sweep_34 : decode cX6_sweep 34 = .ok (.iload_n 2, 1) := by decide +kernel
theorem dX6_sweep_35 : decode cX6_sweep 35 = .ok (.lconst 0, 1) := by decide +kernel
theorem dX6_sweep_36 : decode cX6_sweep 36 = .ok (.lastore, 1) := by decide +kernel
theorem dX6_sweep_37 : decode cX6_sweep 37 = .ok (.iinc 2 1, 3) := by decide +kernel
theorem dX6_sweep_40 : decode cX6_sweep 40 = .ok (.goto (-21), 3) := by decide +kernel
theorem dX6_sweep_43 : decode cX6_sweep 43 = .ok (.aload_n 0, 1) := by decide +kernel
theorem dX6_sweep_44 : decode cX6_sweep 44 = .ok (.getfield 79, 3) := by decide +kernel
theorem dX6_sweep_47 : decode cX6_sweep 47 = .ok (.iconst 4, 1) := by decide +kernel
theorem dX6_sweep_48 : decode cX6_sweep 48 = .ok (.if_icmp .eq 11, 3) := by decide +kernel
theorem dX6_sweep_51 : decode cX6_sweep 51 = .ok (.aload_n 0, 1) := by decide +kernel
theorem dX6_sweep_52 : decode cX6_sweep 52 = .ok (.getfield 79, 3) := by decide +kernel
theorem dX6_sweep_55 : decode cX6_sweep 55 = .ok (.iconst 5, 1) := by decide +kernel
theorem dX6_sweep_56 : decode cX6_sweep 56 = .ok (.if_icmp .ne 7, 3) := by decide +kernel
theorem dX6_sweep_59 : decode cX6_sweep 59 = .ok (.iconst 1, 1) := by decide +kernel
theorem dX6_sweep_60 : decode cX6_sweep 60 = .ok (.goto 4, 3) := by decide +kernel
theorem dX6_sweep_63 : decode cX6_sweep 63 = .ok (.iconst 0, 1) := by decide +kernel
theorem dX6_sweep_64 : decode cX6_sweep 64 = .ok (.istore_n 2, 1) := by decide +kernel
theorem dX6_sweep_65 : decode cX6_sweep 65 = .ok (.iconst 0, 1) := by decide +kernel
theorem dX6_sweep_66 : decode cX6_sweep 66 = .ok (.istore_n 3, 1) := by decide +kernel
theorem dX6_sweep_67 : decode cX6_sweep 67 = .ok (.iconst 0, 1) := by decide +kernel
theorem dX6_sweep_68 : decode cX6_sweep 68 = .ok (.istore 4, 2) := by decide +kernel
theorem dX6_sweep_70 : decode cX6_sweep 70 = .ok (.iload 4, 2) := by decide +kernel
theorem dX6_sweep_72 : decode cX6_sweep 72 = .ok (.aload_n 0, 1) := by decide +kernel
theorem dX6_sweep_73 : decode cX6_sweep 73 = .ok (.getfield 54, 3) := by decide +kernel
theorem dX6_sweep_76 : decode cX6_sweep 76 = .ok (.getfield 182, 3) := by decide +kernel
theorem dX6_sweep_79 : decode cX6_sweep 79 = .ok (.iconst 2, 1) := by decide +kernel
theorem dX6_sweep_80 : decode cX6_sweep 80 = .ok (.iaload, 1) := by decide +kernel
theorem dX6_sweep_81 : decode cX6_sweep 81 = .ok (.if_icmp .ge 96, 3) := by decide +kernel
theorem dX6_sweep_84 : decode cX6_sweep 84 = .ok (.iconst 0, 1) := by decide +kernel
theorem dX6_sweep_85 : decode cX6_sweep 85 = .ok (.istore 5, 2) := by decide +kernel
theorem dX6_sweep_87 : decode cX6_sweep 87 = .ok (.iload 5, 2) := by decide +kernel
theorem dX6_sweep_89 : decode cX6_sweep 89 = .ok (.aload_n 0, 1) := by decide +kernel
theorem dX6_sweep_90 : decode cX6_sweep 90 = .ok (.getfield 54, 3) := by decide +kernel
theorem dX6_sweep_93 : decode cX6_sweep 93 = .ok (.getfield 182, 3) := by decide +kernel
theorem dX6_sweep_96 : decode cX6_sweep 96 = .ok (.iconst 1, 1) := by decide +kernel
theorem dX6_sweep_97 : decode cX6_sweep 97 = .ok (.iaload, 1) := by decide +kernel
theorem dX6_sweep_98 : decode cX6_sweep 98 = .ok (.if_icmp .ge 73, 3) := by decide +kernel
theorem dX6_sweep_101 : decode cX6_sweep 101 = .ok (.iconst 0, 1) := by decide +kernel
theorem dX6_sweep_102 : decode cX6_sweep 102 = .ok (.istore 6, 2) := by decide +kernel
theorem dX6_sweep_104 : decode cX6_sweep 104 = .ok (.iload 6, 2) := by decide +kernel
theorem dX6_sweep_106 : decode cX6_sweep 106 = .ok (.aload_n 0, 1) := by decide +kernel
theorem dX6_sweep_107 : decode cX6_sweep 107 = .ok (.getfield 54, 3) := by decide +kernel
theorem dX6_sweep_110 : decode cX6_sweep 110 = .ok (.getfield 182, 3) := by decide +kernel
theorem dX6_sweep_113 : decode cX6_sweep 113 = .ok (.iconst 0, 1) := by decide +kernel
theorem dX6_sweep_114 : decode cX6_sweep 114 = .ok (.iaload, 1) := by decide +kernel
theorem dX6_sweep_115 : decode cX6_sweep 115 = .ok (.if_icmp .ge 50, 3) := by decide +kernel
theorem dX6_sweep_118 : decode cX6_sweep 118 = .ok (.iload_n 2, 1) := by decide +kernel
theorem dX6_sweep_119 : decode cX6_sweep 119 = .ok (.ifCond .eq 15, 3) := by decide +kernel
theorem dX6_sweep_122 : decode cX6_sweep 122 = .ok (.aload_n 0, 1) := by decide +kernel
theorem dX6_sweep_123 : decode cX6_sweep 123 = .ok (.iload_n 3, 1) := by decide +kernel
theorem dX6_sweep_124 : decode cX6_sweep 124 = .ok (.iload_n 1, 1) := by decide +kernel
theorem dX6_sweep_125 : decode cX6_sweep 125 = .ok (.invokevirtual 138, 3) := by decide +kernel
theorem dX6_sweep_128 : decode cX6_sweep 128 = .ok (.ifCond .eq 28, 3) := by decide +kernel
theorem dX6_sweep_131 : decode cX6_sweep 131 = .ok (.goto 14, 3) := by decide +kernel
theorem dX6_sweep_134 : decode cX6_sweep 134 = .ok (.aload_n 0, 1) := by decide +kernel
theorem dX6_sweep_135 : decode cX6_sweep 135 = .ok (.getfield 35, 3) := by decide +kernel
theorem dX6_sweep_138 : decode cX6_sweep 138 = .ok (.iload_n 3, 1) := by decide +kernel
theorem dX6_sweep_139 : decode cX6_sweep 139 = .ok (.laload, 1) := by decide +kernel
theorem dX6_sweep_140 : decode cX6_sweep 140 = .ok (.lconst 0, 1) := by decide +kernel
theorem dX6_sweep_141 : decode cX6_sweep 141 = .ok (.lcmp, 1) := by decide +kernel
theorem dX6_sweep_142 : decode cX6_sweep 142 = .ok (.ifCond .eq 14, 3) := by decide +kernel
theorem dX6_sweep_145 : decode cX6_sweep 145 = .ok (.aload_n 0, 1) := by decide +kernel
theorem dX6_sweep_146 : decode cX6_sweep 146 = .ok (.iload_n 3, 1) := by decide +kernel
theorem dX6_sweep_147 : decode cX6_sweep 147 = .ok (.iload 6, 2) := by decide +kernel
theorem dX6_sweep_149 : decode cX6_sweep 149 = .ok (.iload 5, 2) := by decide +kernel
theorem dX6_sweep_151 : decode cX6_sweep 151 = .ok (.iload 4, 2) := by decide +kernel
theorem dX6_sweep_153 : decode cX6_sweep 153 = .ok (.invokevirtual 185, 3) := by decide +kernel
theorem dX6_sweep_156 : decode cX6_sweep 156 = .ok (.iinc 3 1, 3) := by decide +kernel
theorem dX6_sweep_159 : decode cX6_sweep 159 = .ok (.iinc 6 1, 3) := by decide +kernel
theorem dX6_sweep_162 : decode cX6_sweep 162 = .ok (.goto (-58), 3) := by decide +kernel
theorem dX6_sweep_165 : decode cX6_sweep 165 = .ok (.iinc 5 1, 3) := by decide +kernel
theorem dX6_sweep_168 : decode cX6_sweep 168 = .ok (.goto (-81), 3) := by decide +kernel
theorem dX6_sweep_171 : decode cX6_sweep 171 = .ok (.iinc 4 1, 3) := by decide +kernel
theorem dX6_sweep_174 : decode cX6_sweep 174 = .ok (.goto (-104), 3) := by decide +kernel
theorem dX6_sweep_177 : decode cX6_sweep 177 = .ok (.iconst 0, 1) := by decide +kernel
theorem dX6_sweep_178 : decode cX6_sweep 178 = .ok (.istore 4, 2) := by decide +kernel
theorem dX6_sweep_180 : decode cX6_sweep 180 = .ok (.iload_n 2, 1) := by decide +kernel
theorem dX6_sweep_181 : decode cX6_sweep 181 = .ok (.ifCond .ne 53, 3) := by decide +kernel
theorem dX6_sweep_184 : decode cX6_sweep 184 = .ok (.iload 4, 2) := by decide +kernel
theorem dX6_sweep_186 : decode cX6_sweep 186 = .ok (.aload_n 0, 1) := by decide +kernel
theorem dX6_sweep_187 : decode cX6_sweep 187 = .ok (.getfield 54, 3) := by decide +kernel
theorem dX6_sweep_190 : decode cX6_sweep 190 = .ok (.getfield 85, 3) := by decide +kernel
theorem dX6_sweep_193 : decode cX6_sweep 193 = .ok (.if_icmp .ge 41, 3) := by decide +kernel
theorem dX6_sweep_196 : decode cX6_sweep 196 = .ok (.aload_n 0, 1) := by decide +kernel
theorem dX6_sweep_197 : decode cX6_sweep 197 = .ok (.getfield 38, 3) := by decide +kernel
theorem dX6_sweep_200 : decode cX6_sweep 200 = .ok (.iload 4, 2) := by decide +kernel
theorem dX6_sweep_202 : decode cX6_sweep 202 = .ok (.laload, 1) := by decide +kernel
theorem dX6_sweep_203 : decode cX6_sweep 203 = .ok (.lconst 0, 1) := by decide +kernel
theorem dX6_sweep_204 : decode cX6_sweep 204 = .ok (.lcmp, 1) := by decide +kernel
theorem dX6_sweep_205 : decode cX6_sweep 205 = .ok (.ifCond .eq 23, 3) := by decide +kernel
theorem dX6_sweep_208 : decode cX6_sweep 208 = .ok (.aload_n 0, 1) := by decide +kernel
theorem dX6_sweep_209 : decode cX6_sweep 209 = .ok (.iload 4, 2) := by decide +kernel
theorem dX6_sweep_211 : decode cX6_sweep 211 = .ok (.iload_n 1, 1) := by decide +kernel
theorem dX6_sweep_212 : decode cX6_sweep 212 = .ok (.iconst 1, 1) := by decide +kernel
theorem dX6_sweep_213 : decode cX6_sweep 213 = .ok (.iadd, 1) := by decide +kernel
theorem dX6_sweep_214 : decode cX6_sweep 214 = .ok (.invokevirtual 163, 3) := by decide +kernel
theorem dX6_sweep_217 : decode cX6_sweep 217 = .ok (.ifCond .ne 11, 3) := by decide +kernel
theorem dX6_sweep_220 : decode cX6_sweep 220 = .ok (.aload_n 0, 1) := by decide +kernel
theorem dX6_sweep_221 : decode cX6_sweep 221 = .ok (.getfield 38, 3) := by decide +kernel
theorem dX6_sweep_224 : decode cX6_sweep 224 = .ok (.iload 4, 2) := by decide +kernel
theorem dX6_sweep_226 : decode cX6_sweep 226 = .ok (.lconst 0, 1) := by decide +kernel
theorem dX6_sweep_227 : decode cX6_sweep 227 = .ok (.lastore, 1) := by decide +kernel
theorem dX6_sweep_228 : decode cX6_sweep 228 = .ok (.iinc 4 1, 3) := by decide +kernel
theorem dX6_sweep_231 : decode cX6_sweep 231 = .ok (.goto (-51), 3) := by decide +kernel
theorem dX6_sweep_234 : decode cX6_sweep 234 = .ok (.aload_n 0, 1) := by decide +kernel
theorem dX6_sweep_235 : decode cX6_sweep 235 = .ok (.getfield 35, 3) := by decide +kernel
theorem dX6_sweep_238 : decode cX6_sweep 238 = .ok (.astore 4, 2) := by decide +kernel
theorem dX6_sweep_240 : decode cX6_sweep 240 = .ok (.aload_n 0, 1) := by decide +kernel
theorem dX6_sweep_241 : decode cX6_sweep 241 = .ok (.aload_n 0, 1) := by decide +kernel
theorem dX6_sweep_242 : decode cX6_sweep 242 = .ok (.getfield 38, 3) := by decide +kernel
theorem dX6_sweep_245 : decode cX6_sweep 245 = .ok (.putfield 35, 3) := by decide +kernel
theorem dX6_sweep_248 : decode cX6_sweep 248 = .ok (.aload_n 0, 1) := by decide +kernel
theorem dX6_sweep_249 : decode cX6_sweep 249 = .ok (.aload 4, 2) := by decide +kernel
theorem dX6_sweep_251 : decode cX6_sweep 251 = .ok (.putfield 38, 3) := by decide +kernel
theorem dX6_sweep_254 : decode cX6_sweep 254 = .ok (.return_, 1) := by decide +kernel
theorem dX6_fan_0 : decode cX6_fan 0 = .ok (.aload_n 0, 1) := by decide +kernel
theorem dX6_fan_1 : decode cX6_fan 1 = .ok (.getfield 54, 3) := by decide +kernel
theorem dX6_fan_4 : decode cX6_fan 4 = .ok (.getfield 189, 3) := by decide +kernel
theorem dX6_fan_7 : decode cX6_fan 7 = .ok (.istore 5, 2) := by decide +kernel
theorem dX6_fan_9 : decode cX6_fan 9 = .ok (.aload_n 0, 1) := by decide +kernel
theorem dX6_fan_10 : decode cX6_fan 10 = .ok (.getfield 54, 3) := by decide +kernel
theorem dX6_fan_13 : decode cX6_fan 13 = .ok (.getfield 192, 3) := by decide +kernel
theorem dX6_fan_16 : decode cX6_fan 16 = .ok (.aload_n 0, 1) := by decide +kernel
theorem dX6_fan_17 : decode cX6_fan 17 = .ok (.getfield 175, 3) := by decide +kernel
theorem dX6_fan_20 : decode cX6_fan 20 = .ok (.iaload, 1) := by decide +kernel
theorem dX6_fan_21 : decode cX6_fan 21 = .ok (.iload 5, 2) := by decide +kernel
theorem dX6_fan_23 : decode cX6_fan 23 = .ok (.iand, 1) := by decide +kernel
theorem dX6_fan_24 : decode cX6_fan 24 = .ok (.istore 6, 2) := by decide +kernel
theorem dX6_fan_26 : decode cX6_fan 26 = .ok (.aload_n 0, 1) := by decide +kernel
theorem dX6_fan_27 : decode cX6_fan 27 = .ok (.getfield 12, 3) := by decide +kernel
theorem dX6_fan_30 : decode cX6_fan 30 = .ok (.getfield 195, 3) := by decide +kernel
theorem dX6_fan_33 : decode cX6_fan 33 = .ok (.astore 7, 2) := by decide +kernel
theorem dX6_fan_35 : decode cX6_fan 35 = .ok (.aload_n 0, 1) := by decide +kernel
theorem dX6_fan_36 : decode cX6_fan 36 = .ok (.getfield 12, 3) := by decide +kernel
theorem dX6_fan_39 : decode cX6_fan 39 = .ok (.getfield 198, 3) := by decide +kernel
theorem dX6_fan_42 : decode cX6_fan 42 = .ok (.astore 8, 2) := by decide +kernel
theorem dX6_fan_44 : decode cX6_fan 44 = .ok (.aload_n 0, 1) := by decide +kernel
theorem dX6_fan_45 : decode cX6_fan 45 = .ok (.getfield 12, 3) := by decide +kernel
theorem dX6_fan_48 : decode cX6_fan 48 = .ok (.getfield 201, 3) := by decide +kernel
theorem dX6_fan_51 : decode cX6_fan 51 = .ok (.astore 9, 2) := by decide +kernel
theorem dX6_fan_53 : decode cX6_fan 53 = .ok (.bipush 13, 2) := by decide +kernel
theorem dX6_fan_55 : decode cX6_fan 55 = .ok (.iload_n 3, 1) := by decide +kernel
theorem dX6_fan_56 : decode cX6_fan 56 = .ok (.iadd, 1) := by decide +kernel
theorem dX6_fan_57 : decode cX6_fan 57 = .ok (.istore 10, 2) := by decide +kernel
theorem dX6_fan_59 : decode cX6_fan 59 = .ok (.bipush 26, 2) := by decide +kernel
theorem dX6_fan_61 : decode cX6_fan 61 = .ok (.iload 4, 2) := by decide +kernel
theorem dX6_fan_63 : decode cX6_fan 63 = .ok (.iadd, 1) := by decide +kernel
theorem dX6_fan_64 : decode cX6_fan 64 = .ok (.istore 11, 2) := by decide +kernel
theorem dX6_fan_66 : decode cX6_fan 66 = .ok (.aload 7, 2) := by decide +kernel
theorem dX6_fan_68 : decode cX6_fan 68 = .ok (.iload_n 2, 1) := by decide +kernel
theorem dX6_fan_69 : decode cX6_fan 69 = .ok (.iaload, 1) := by decide +kernel
theorem dX6_fan_70 : decode cX6_fan 70 = .ok (.istore 12, 2) := by decide +kernel
theorem dX6_fan_72 : decode cX6_fan 72 = .ok (.iload 12, 2) := by decide +kernel
theorem dX6_fan_74 : decode cX6_fan 74 = .ok (.aload 7, 2) := by decide +kernel
theorem dX6_fan_76 : decode cX6_fan 76 = .ok (.iload_n 2, 1) := by decide +kernel
theorem dX6_fan_77 : decode cX6_fan 77 = .ok (.iconst 1, 1) := by decide +kernel
theorem dX6_fan_78 : decode cX6_fan 78 = .ok (.iadd, 1) := by decide +kernel
theorem dX6_fan_79 : decode cX6_fan 79 = .ok (.iaload, 1) := by decide +kernel
theorem dX6_fan_80 : decode cX6_fan 80 = .ok (.if_icmp .ge 129, 3) := by decide +kernel
theorem dX6_fan_83 : decode cX6_fan 83 = .ok (.aload 7, 2) := by decide +kernel
theorem dX6_fan_85 : decode cX6_fan 85 = .ok (.iload 10, 2) := by decide +kernel
theorem dX6_fan_87 : decode cX6_fan 87 = .ok (.iaload, 1) := by decide +kernel
theorem dX6_fan_88 : decode cX6_fan 88 = .ok (.istore 13, 2) := by decide +kernel
theorem dX6_fan_90 : decode cX6_fan 90 = .ok (.iload 13, 2) := by decide +kernel
theorem dX6_fan_92 : decode cX6_fan 92 = .ok (.aload 7, 2) := by decide +kernel
theorem dX6_fan_94 : decode cX6_fan 94 = .ok (.iload 10, 2) := by decide +kernel
theorem dX6_fan_96 : decode cX6_fan 96 = .ok (.iconst 1, 1) := by decide +kernel
theorem dX6_fan_97 : decode cX6_fan 97 = .ok (.iadd, 1) := by decide +kernel
theorem dX6_fan_98 : decode cX6_fan 98 = .ok (.iaload, 1) := by decide +kernel
theorem dX6_fan_99 : decode cX6_fan 99 = .ok (.if_icmp .ge 104, 3) := by decide +kernel
theorem dX6_fan_102 : decode cX6_fan 102 = .ok (.aload 9, 2) := by decide +kernel
theorem dX6_fan_104 : decode cX6_fan 104 = .ok (.iload 12, 2) := by decide +kernel
theorem dX6_fan_106 : decode cX6_fan 106 = .ok (.iaload, 1) := by decide +kernel
theorem dX6_fan_107 : decode cX6_fan 107 = .ok (.aload 9, 2) := by decide +kernel
theorem dX6_fan_109 : decode cX6_fan 109 = .ok (.iload 13, 2) := by decide +kernel
theorem dX6_fan_111 : decode cX6_fan 111 = .ok (.iaload, 1) := by decide +kernel
theorem dX6_fan_112 : decode cX6_fan 112 = .ok (.ior, 1) := by decide +kernel
theorem dX6_fan_113 : decode cX6_fan 113 = .ok (.istore 14, 2) := by decide +kernel
theorem dX6_fan_115 : decode cX6_fan 115 = .ok (.aload 8, 2) := by decide +kernel
theorem dX6_fan_117 : decode cX6_fan 117 = .ok (.iload 12, 2) := by decide +kernel
theorem dX6_fan_119 : decode cX6_fan 119 = .ok (.iaload, 1) := by decide +kernel
theorem dX6_fan_120 : decode cX6_fan 120 = .ok (.aload 8, 2) := by decide +kernel
theorem dX6_fan_122 : decode cX6_fan 122 = .ok (.iload 13, 2) := by decide +kernel
theorem dX6_fan_124 : decode cX6_fan 124 = .ok (.iaload, 1) := by decide +kernel
theorem dX6_fan_125 : decode cX6_fan 125 = .ok (.iadd, 1) := by decide +kernel
theorem dX6_fan_126 : decode cX6_fan 126 = .ok (.istore 15, 2) := by decide +kernel
theorem dX6_fan_128 : decode cX6_fan 128 = .ok (.aload 7, 2) := by decide +kernel
theorem dX6_fan_130 : decode cX6_fan 130 = .ok (.iload 11, 2) := by decide +kernel
theorem dX6_fan_132 : decode cX6_fan 132 = .ok (.iaload, 1) := by decide +kernel
theorem dX6_fan_133 : decode cX6_fan 133 = .ok (.istore 16, 2) := by decide +kernel
theorem dX6_fan_135 : decode cX6_fan 135 = .ok (.iload 16, 2) := by decide +kernel
theorem dX6_fan_137 : decode cX6_fan 137 = .ok (.aload 7, 2) := by decide +kernel
theorem dX6_fan_139 : decode cX6_fan 139 = .ok (.iload 11, 2) := by decide +kernel
theorem dX6_fan_141 : decode cX6_fan 141 = .ok (.iconst 1, 1) := by decide +kernel
theorem dX6_fan_142 : decode cX6_fan 142 = .ok (.iadd, 1) := by decide +kernel
theorem dX6_fan_143 : decode cX6_fan 143 = .ok (.iaload, 1) := by decide +kernel
theorem dX6_fan_144 : decode cX6_fan 144 = .ok (.if_icmp .ge 53, 3) := by decide +kernel
theorem dX6_fan_147 : decode cX6_fan 147 = .ok (.iload 14, 2) := by decide +kernel
theorem dX6_fan_149 : decode cX6_fan 149 = .ok (.aload 9, 2) := by decide +kernel
theorem dX6_fan_151 : decode cX6_fan 151 = .ok (.iload 16, 2) := by decide +kernel
theorem dX6_fan_153 : decode cX6_fan 153 = .ok (.iaload, 1) := by decide +kernel
theorem dX6_fan_154 : decode cX6_fan 154 = .ok (.ior, 1) := by decide +kernel
theorem dX6_fan_155 : decode cX6_fan 155 = .ok (.iload 5, 2) := by decide +kernel
theorem dX6_fan_157 : decode cX6_fan 157 = .ok (.iand, 1) := by decide +kernel
theorem dX6_fan_158 : decode cX6_fan 158 = .ok (.iload 6, 2) := by decide +kernel
theorem dX6_fan_160 : decode cX6_fan 160 = .ok (.if_icmp .ne 31, 3) := by decide +kernel
theorem dX6_fan_163 : decode cX6_fan 163 = .ok (.aload_n 0, 1) := by decide +kernel
theorem dX6_fan_164 : decode cX6_fan 164 = .ok (.iload_n 1, 1) := by decide +kernel
theorem dX6_fan_165 : decode cX6_fan 165 = .ok (.iload 15, 2) := by decide +kernel
theorem dX6_fan_167 : decode cX6_fan 167 = .ok (.aload 8, 2) := by decide +kernel
theorem dX6_fan_169 : decode cX6_fan 169 = .ok (.iload 16, 2) := by decide +kernel
theorem dX6_fan_171 : decode cX6_fan 171 = .ok (.iaload, 1) := by decide +kernel
theorem dX6_fan_172 : decode cX6_fan 172 = .ok (.iadd, 1) := by decide +kernel
theorem dX6_fan_173 : decode cX6_fan 173 = .ok (.aload 9, 2) := by decide +kernel
theorem dX6_fan_175 : decode cX6_fan 175 = .ok (.iload 12, 2) := by decide +kernel
theorem dX6_fan_177 : decode cX6_fan 177 = .ok (.iaload, 1) := by decide +kernel
theorem dX6_fan_178 : decode cX6_fan 178 = .ok (.aload 9, 2) := by decide +kernel
theorem dX6_fan_180 : decode cX6_fan 180 = .ok (.iload 13, 2) := by decide +kernel
theorem dX6_fan_182 : decode cX6_fan 182 = .ok (.iaload, 1) := by decide +kernel
theorem dX6_fan_183 : decode cX6_fan 183 = .ok (.aload 9, 2) := by decide +kernel
theorem dX6_fan_185 : decode cX6_fan 185 = .ok (.iload 16, 2) := by decide +kernel
theorem dX6_fan_187 : decode cX6_fan 187 = .ok (.iaload, 1) := by decide +kernel
theorem dX6_fan_188 : decode cX6_fan 188 = .ok (.invokevirtual 204, 3) := by decide +kernel
theorem dX6_fan_191 : decode cX6_fan 191 = .ok (.iinc 16 1, 3) := by decide +kernel
theorem dX6_fan_194 : decode cX6_fan 194 = .ok (.goto (-59), 3) := by decide +kernel
theorem dX6_fan_197 : decode cX6_fan 197 = .ok (.iinc 13 1, 3) := by decide +kernel
theorem dX6_fan_200 : decode cX6_fan 200 = .ok (.goto (-110), 3) := by decide +kernel
theorem dX6_fan_203 : decode cX6_fan 203 = .ok (.iinc 12 1, 3) := by decide +kernel
theorem dX6_fan_206 : decode cX6_fan 206 = .ok (.goto (-134), 3) := by decide +kernel
theorem dX6_fan_209 : decode cX6_fan 209 = .ok (.return_, 1) := by decide +kernel
theorem dX6_link_0 : decode cX6_link 0 = .ok (.aload_n 0, 1) := by decide +kernel
theorem dX6_link_1 : decode cX6_link 1 = .ok (.getfield 79, 3) := by decide +kernel
theorem dX6_link_4 : decode cX6_link 4 = .ok (.tableswitch 194 0 4 #[36, 61, 109, 145, 169], 36) := by decide +kernel
theorem dX6_link_40 : decode cX6_link 40 = .ok (.aload_n 0, 1) := by decide +kernel
theorem dX6_link_41 : decode cX6_link 41 = .ok (.getfield 38, 3) := by decide +kernel
theorem dX6_link_44 : decode cX6_link 44 = .ok (.iload_n 2, 1) := by decide +kernel
theorem dX6_link_45 : decode cX6_link 45 = .ok (.aload_n 0, 1) := by decide +kernel
theorem dX6_link_46 : decode cX6_link 46 = .ok (.getfield 38, 3) := by decide +kernel
theorem dX6_link_49 : decode cX6_link 49 = .ok (.iload_n 2, 1) := by decide +kernel
theorem dX6_link_50 : decode cX6_link 50 = .ok (.laload, 1) := by decide +kernel
theorem dX6_link_51 : decode cX6_link 51 = .ok (.aload_n 0, 1) := by decide +kernel
theorem dX6_link_52 : decode cX6_link 52 = .ok (.getfield 35, 3) := by decide +kernel
theorem dX6_link_55 : decode cX6_link 55 = .ok (.iload_n 1, 1) := by decide +kernel
theorem dX6_link_56 : decode cX6_link 56 = .ok (.laload, 1) := by decide +kernel
theorem dX6_link_57 : decode cX6_link 57 = .ok (.ladd, 1) := by decide +kernel
theorem dX6_link_58 : decode cX6_link 58 = .ok (.invokestatic 95, 3) := by decide +kernel
theorem dX6_link_61 : decode cX6_link 61 = .ok (.lastore, 1) := by decide +kernel
theorem dX6_link_62 : decode cX6_link 62 = .ok (.goto 215, 3) := by decide +kernel
theorem dX6_link_65 : decode cX6_link 65 = .ok (.aload_n 0, 1) := by decide +kernel
theorem dX6_link_66 : decode cX6_link 66 = .ok (.getfield 38, 3) := by decide +kernel
theorem dX6_link_69 : decode cX6_link 69 = .ok (.iload_n 2, 1) := by decide +kernel
theorem dX6_link_70 : decode cX6_link 70 = .ok (.dup2, 1) := by decide +kernel
theorem dX6_link_71 : decode cX6_link 71 = .ok (.laload, 1) := by decide +kernel
theorem dX6_link_72 : decode cX6_link 72 = .ok (.aload_n 0, 1) := by decide +kernel
theorem dX6_link_73 : decode cX6_link 73 = .ok (.aload_n 0, 1) := by decide +kernel
theorem dX6_link_74 : decode cX6_link 74 = .ok (.getfield 35, 3) := by decide +kernel
theorem dX6_link_77 : decode cX6_link 77 = .ok (.iload_n 1, 1) := by decide +kernel
theorem dX6_link_78 : decode cX6_link 78 = .ok (.laload, 1) := by decide +kernel
theorem dX6_link_79 : decode cX6_link 79 = .ok (.aload_n 0, 1) := by decide +kernel
theorem dX6_link_80 : decode cX6_link 80 = .ok (.getfield 101, 3) := by decide +kernel
theorem dX6_link_83 : decode cX6_link 83 = .ok (.ifCond .ne 7, 3) := by decide +kernel
theorem dX6_link_86 : decode cX6_link 86 = .ok (.iload_n 3, 1) := by decide +kernel
theorem dX6_link_87 : decode cX6_link 87 = .ok (.goto 18, 3) := by decide +kernel
theorem dX6_link_90 : decode cX6_link 90 = .ok (.aload_n 0, 1) := by decide +kernel
theorem dX6_link_91 : decode cX6_link 91 = .ok (.getfield 101, 3) := by decide +kernel
theorem dX6_link_94 : decode cX6_link 94 = .ok (.iconst 1, 1) := by decide +kernel
theorem dX6_link_95 : decode cX6_link 95 = .ok (.if_icmp .ne 8, 3) := by decide +kernel
theorem dX6_link_98 : decode cX6_link 98 = .ok (.iload 4, 2) := by decide +kernel
theorem dX6_link_100 : decode cX6_link 100 = .ok (.goto 5, 3) := by decide +kernel
theorem dX6_link_103 : decode cX6_link 103 = .ok (.iload 5, 2) := by decide +kernel
theorem dX6_link_105 : decode cX6_link 105 = .ok (.invokevirtual 208, 3) := by decide +kernel
theorem dX6_link_108 : decode cX6_link 108 = .ok (.lor, 1) := by decide +kernel
theorem dX6_link_109 : decode cX6_link 109 = .ok (.lastore, 1) := by decide +kernel
theorem dX6_link_110 : decode cX6_link 110 = .ok (.goto 167, 3) := by decide +kernel
theorem dX6_link_113 : decode cX6_link 113 = .ok (.aload_n 0, 1) := by decide +kernel
theorem dX6_link_114 : decode cX6_link 114 = .ok (.getfield 38, 3) := by decide +kernel
theorem dX6_link_117 : decode cX6_link 117 = .ok (.iload_n 2, 1) := by decide +kernel
theorem dX6_link_118 : decode cX6_link 118 = .ok (.aload_n 0, 1) := by decide +kernel
theorem dX6_link_119 : decode cX6_link 119 = .ok (.getfield 38, 3) := by decide +kernel
theorem dX6_link_122 : decode cX6_link 122 = .ok (.iload_n 2, 1) := by decide +kernel
theorem dX6_link_123 : decode cX6_link 123 = .ok (.laload, 1) := by decide +kernel
theorem dX6_link_124 : decode cX6_link 124 = .ok (.aload_n 0, 1) := by decide +kernel
theorem dX6_link_125 : decode cX6_link 125 = .ok (.getfield 35, 3) := by decide +kernel
theorem dX6_link_128 : decode cX6_link 128 = .ok (.iload_n 1, 1) := by decide +kernel
theorem dX6_link_129 : decode cX6_link 129 = .ok (.laload, 1) := by decide +kernel
theorem dX6_link_130 : decode cX6_link 130 = .ok (.aload_n 0, 1) := by decide +kernel
theorem dX6_link_131 : decode cX6_link 131 = .ok (.iload_n 3, 1) := by decide +kernel
theorem dX6_link_132 : decode cX6_link 132 = .ok (.iload 4, 2) := by decide +kernel
theorem dX6_link_134 : decode cX6_link 134 = .ok (.ior, 1) := by decide +kernel
theorem dX6_link_135 : decode cX6_link 135 = .ok (.iload 5, 2) := by decide +kernel
theorem dX6_link_137 : decode cX6_link 137 = .ok (.ior, 1) := by decide +kernel
theorem dX6_link_138 : decode cX6_link 138 = .ok (.invokevirtual 212, 3) := by decide +kernel
theorem dX6_link_141 : decode cX6_link 141 = .ok (.ladd, 1) := by decide +kernel
theorem dX6_link_142 : decode cX6_link 142 = .ok (.invokestatic 132, 3) := by decide +kernel
theorem dX6_link_145 : decode cX6_link 145 = .ok (.lastore, 1) := by decide +kernel
theorem dX6_link_146 : decode cX6_link 146 = .ok (.goto 131, 3) := by decide +kernel
theorem dX6_link_149 : decode cX6_link 149 = .ok (.aload_n 0, 1) := by decide +kernel
theorem dX6_link_150 : decode cX6_link 150 = .ok (.getfield 38, 3) := by decide +kernel
theorem dX6_link_153 : decode cX6_link 153 = .ok (.iload_n 2, 1) := by decide +kernel
theorem dX6_link_154 : decode cX6_link 154 = .ok (.aload_n 0, 1) := by decide +kernel
theorem dX6_link_155 : decode cX6_link 155 = .ok (.getfield 38, 3) := by decide +kernel
theorem dX6_link_158 : decode cX6_link 158 = .ok (.iload_n 2, 1) := by decide +kernel
theorem dX6_link_159 : decode cX6_link 159 = .ok (.laload, 1) := by decide +kernel
theorem dX6_link_160 : decode cX6_link 160 = .ok (.aload_n 0, 1) := by decide +kernel
theorem dX6_link_161 : decode cX6_link 161 = .ok (.getfield 35, 3) := by decide +kernel
theorem dX6_link_164 : decode cX6_link 164 = .ok (.iload_n 1, 1) := by decide +kernel
theorem dX6_link_165 : decode cX6_link 165 = .ok (.laload, 1) := by decide +kernel
theorem dX6_link_166 : decode cX6_link 166 = .ok (.invokestatic 142, 3) := by decide +kernel
theorem dX6_link_169 : decode cX6_link 169 = .ok (.lastore, 1) := by decide +kernel
theorem dX6_link_170 : decode cX6_link 170 = .ok (.goto 107, 3) := by decide +kernel
theorem dX6_link_173 : decode cX6_link 173 = .ok (.aload_n 0, 1) := by decide +kernel
theorem dX6_link_174 : decode cX6_link 174 = .ok (.getfield 38, 3) := by decide +kernel
theorem dX6_link_177 : decode cX6_link 177 = .ok (.iload_n 1, 1) := by decide +kernel
theorem dX6_link_178 : decode cX6_link 178 = .ok (.aload_n 0, 1) := by decide +kernel
theorem dX6_link_179 : decode cX6_link 179 = .ok (.getfield 38, 3) := by decide +kernel
theorem dX6_link_182 : decode cX6_link 182 = .ok (.iload_n 1, 1) := by decide +kernel
theorem dX6_link_183 : decode cX6_link 183 = .ok (.laload, 1) := by decide +kernel
theorem dX6_link_184 : decode cX6_link 184 = .ok (.aload_n 0, 1) := by decide +kernel
theorem dX6_link_185 : decode cX6_link 185 = .ok (.getfield 35, 3) := by decide +kernel
theorem dX6_link_188 : decode cX6_link 188 = .ok (.iload_n 2, 1) := by decide +kernel
theorem dX6_link_189 : decode cX6_link 189 = .ok (.laload, 1) := by decide +kernel
theorem dX6_link_190 : decode cX6_link 190 = .ok (.ladd, 1) := by decide +kernel
theorem dX6_link_191 : decode cX6_link 191 = .ok (.invokestatic 95, 3) := by decide +kernel
theorem dX6_link_194 : decode cX6_link 194 = .ok (.lastore, 1) := by decide +kernel
theorem dX6_link_195 : decode cX6_link 195 = .ok (.goto 82, 3) := by decide +kernel
theorem dX6_link_198 : decode cX6_link 198 = .ok (.aload_n 0, 1) := by decide +kernel
theorem dX6_link_199 : decode cX6_link 199 = .ok (.getfield 35, 3) := by decide +kernel
theorem dX6_link_202 : decode cX6_link 202 = .ok (.iload_n 2, 1) := by decide +kernel
theorem dX6_link_203 : decode cX6_link 203 = .ok (.laload, 1) := by decide +kernel
theorem dX6_link_204 : decode cX6_link 204 = .ok (.lconst 0, 1) := by decide +kernel
theorem dX6_link_205 : decode cX6_link 205 = .ok (.lcmp, 1) := by decide +kernel
theorem dX6_link_206 : decode cX6_link 206 = .ok (.ifCond .ne 6, 3) := by decide +kernel
theorem dX6_link_209 : decode cX6_link 209 = .ok (.goto 68, 3) := by decide +kernel
theorem dX6_link_212 : decode cX6_link 212 = .ok (.aload_n 0, 1) := by decide +kernel
theorem dX6_link_213 : decode cX6_link 213 = .ok (.getfield 38, 3) := by decide +kernel
theorem dX6_link_216 : decode cX6_link 216 = .ok (.iload_n 1, 1) := by decide +kernel
theorem dX6_link_217 : decode cX6_link 217 = .ok (.lconst 1, 1) := by decide +kernel
theorem dX6_link_218 : decode cX6_link 218 = .ok (.lastore, 1) := by decide +kernel
theorem dX6_link_219 : decode cX6_link 219 = .ok (.aload_n 0, 1) := by decide +kernel
theorem dX6_link_220 : decode cX6_link 220 = .ok (.iconst 0, 1) := by decide +kernel
theorem dX6_link_221 : decode cX6_link 221 = .ok (.iload_n 3, 1) := by decide +kernel
theorem dX6_link_222 : decode cX6_link 222 = .ok (.invokevirtual 216, 3) := by decide +kernel
theorem dX6_link_225 : decode cX6_link 225 = .ok (.aload_n 0, 1) := by decide +kernel
theorem dX6_link_226 : decode cX6_link 226 = .ok (.iconst 1, 1) := by decide +kernel
theorem dX6_link_227 : decode cX6_link 227 = .ok (.iload 4, 2) := by decide +kernel
theorem dX6_link_229 : decode cX6_link 229 = .ok (.invokevirtual 216, 3) := by decide +kernel
theorem dX6_link_232 : decode cX6_link 232 = .ok (.aload_n 0, 1) := by decide +kernel
theorem dX6_link_233 : decode cX6_link 233 = .ok (.iconst 2, 1) := by decide +kernel
theorem dX6_link_234 : decode cX6_link 234 = .ok (.iload 5, 2) := by decide +kernel
theorem dX6_link_236 : decode cX6_link 236 = .ok (.invokevirtual 216, 3) := by decide +kernel
theorem dX6_link_239 : decode cX6_link 239 = .ok (.aload_n 0, 1) := by decide +kernel
theorem dX6_link_240 : decode cX6_link 240 = .ok (.getfield 29, 3) := by decide +kernel
theorem dX6_link_243 : decode cX6_link 243 = .ok (.aload_n 0, 1) := by decide +kernel
theorem dX6_link_244 : decode cX6_link 244 = .ok (.getfield 175, 3) := by decide +kernel
theorem dX6_link_247 : decode cX6_link 247 = .ok (.dup2, 1) := by decide +kernel
theorem dX6_link_248 : decode cX6_link 248 = .ok (.iaload, 1) := by decide +kernel
theorem dX6_link_249 : decode cX6_link 249 = .ok (.iload_n 3, 1) := by decide +kernel
theorem dX6_link_250 : decode cX6_link 250 = .ok (.iload 4, 2) := by decide +kernel
theorem dX6_link_252 : decode cX6_link 252 = .ok (.ior, 1) := by decide +kernel
theorem dX6_link_253 : decode cX6_link 253 = .ok (.iload 5, 2) := by decide +kernel
theorem dX6_link_255 : decode cX6_link 255 = .ok (.ior, 1) := by decide +kernel
theorem dX6_link_256 : decode cX6_link 256 = .ok (.ior, 1) := by decide +kernel
theorem dX6_link_257 : decode cX6_link 257 = .ok (.iastore, 1) := by decide +kernel
theorem dX6_link_258 : decode cX6_link 258 = .ok (.aload_n 0, 1) := by decide +kernel
theorem dX6_link_259 : decode cX6_link 259 = .ok (.getfield 32, 3) := by decide +kernel
theorem dX6_link_262 : decode cX6_link 262 = .ok (.aload_n 0, 1) := by decide +kernel
theorem dX6_link_263 : decode cX6_link 263 = .ok (.getfield 175, 3) := by decide +kernel
theorem dX6_link_266 : decode cX6_link 266 = .ok (.dup2, 1) := by decide +kernel
theorem dX6_link_267 : decode cX6_link 267 = .ok (.iaload, 1) := by decide +kernel
theorem dX6_link_268 : decode cX6_link 268 = .ok (.iload_n 3, 1) := by decide +kernel
theorem dX6_link_269 : decode cX6_link 269 = .ok (.iload 4, 2) := by decide +kernel
theorem dX6_link_271 : decode cX6_link 271 = .ok (.ior, 1) := by decide +kernel
theorem dX6_link_272 : decode cX6_link 272 = .ok (.iload 5, 2) := by decide +kernel
theorem dX6_link_274 : decode cX6_link 274 = .ok (.ior, 1) := by decide +kernel
theorem dX6_link_275 : decode cX6_link 275 = .ok (.iand, 1) := by decide +kernel
theorem dX6_link_276 : decode cX6_link 276 = .ok (.iastore, 1) := by decide +kernel
theorem dX6_link_277 : decode cX6_link 277 = .ok (.return_, 1) := by decide +kernel
theorem dX6_note_0 : decode cX6_note 0 = .ok (.aload_n 0, 1) := by decide +kernel
theorem dX6_note_1 : decode cX6_note 1 = .ok (.getfield 22, 3) := by decide +kernel
theorem dX6_note_4 : decode cX6_note 4 = .ok (.iload_n 1, 1) := by decide +kernel
theorem dX6_note_5 : decode cX6_note 5 = .ok (.bipush 31, 2) := by decide +kernel
theorem dX6_note_7 : decode cX6_note 7 = .ok (.imul, 1) := by decide +kernel
theorem dX6_note_8 : decode cX6_note 8 = .ok (.aload_n 0, 1) := by decide +kernel
theorem dX6_note_9 : decode cX6_note 9 = .ok (.getfield 175, 3) := by decide +kernel
theorem dX6_note_12 : decode cX6_note 12 = .ok (.iadd, 1) := by decide +kernel
theorem dX6_note_13 : decode cX6_note 13 = .ok (.dup2, 1) := by decide +kernel
theorem dX6_note_14 : decode cX6_note 14 = .ok (.iaload, 1) := by decide +kernel
theorem dX6_note_15 : decode cX6_note 15 = .ok (.iload_n 2, 1) := by decide +kernel
theorem dX6_note_16 : decode cX6_note 16 = .ok (.ior, 1) := by decide +kernel
theorem dX6_note_17 : decode cX6_note 17 = .ok (.iastore, 1) := by decide +kernel
theorem dX6_note_18 : decode cX6_note 18 = .ok (.aload_n 0, 1) := by decide +kernel
theorem dX6_note_19 : decode cX6_note 19 = .ok (.getfield 26, 3) := by decide +kernel
theorem dX6_note_22 : decode cX6_note 22 = .ok (.iload_n 1, 1) := by decide +kernel
theorem dX6_note_23 : decode cX6_note 23 = .ok (.bipush 31, 2) := by decide +kernel
theorem dX6_note_25 : decode cX6_note 25 = .ok (.imul, 1) := by decide +kernel
theorem dX6_note_26 : decode cX6_note 26 = .ok (.aload_n 0, 1) := by decide +kernel
theorem dX6_note_27 : decode cX6_note 27 = .ok (.getfield 175, 3) := by decide +kernel
theorem dX6_note_30 : decode cX6_note 30 = .ok (.iadd, 1) := by decide +kernel
theorem dX6_note_31 : decode cX6_note 31 = .ok (.dup2, 1) := by decide +kernel
theorem dX6_note_32 : decode cX6_note 32 = .ok (.iaload, 1) := by decide +kernel
theorem dX6_note_33 : decode cX6_note 33 = .ok (.iload_n 2, 1) := by decide +kernel
theorem dX6_note_34 : decode cX6_note 34 = .ok (.iand, 1) := by decide +kernel
theorem dX6_note_35 : decode cX6_note 35 = .ok (.iastore, 1) := by decide +kernel
theorem dX6_note_36 : decode cX6_note 36 = .ok (.return_, 1) := by decide +kernel
theorem dX6_stoodOn_0 : decode cX6_stoodOn 0 = .ok (.lload_n 1, 1) := by decide +kernel
theorem dX6_stoodOn_1 : decode cX6_stoodOn 1 = .ok (.aload_n 0, 1) := by decide +kernel
theorem dX6_stoodOn_2 : decode cX6_stoodOn 2 = .ok (.getfield 104, 3) := by decide +kernel
theorem dX6_stoodOn_5 : decode cX6_stoodOn 5 = .ok (.land, 1) := by decide +kernel
theorem dX6_stoodOn_6 : decode cX6_stoodOn 6 = .ok (.lstore 4, 2) := by decide +kernel
theorem dX6_stoodOn_8 : decode cX6_stoodOn 8 = .ok (.lload_n 1, 1) := by decide +kernel
theorem dX6_stoodOn_9 : decode cX6_stoodOn 9 = .ok (.aload_n 0, 1) := by decide +kernel
theorem dX6_stoodOn_10 : decode cX6_stoodOn 10 = .ok (.getfield 104, 3) := by decide +kernel
theorem dX6_stoodOn_13 : decode cX6_stoodOn 13 = .ok (.ldc2_w 124, 3) := by decide +kernel
theorem dX6_stoodOn_16 : decode cX6_stoodOn 16 = .ok (.lxor, 1) := by decide +kernel
theorem dX6_stoodOn_17 : decode cX6_stoodOn 17 = .ok (.land, 1) := by decide +kernel
theorem dX6_stoodOn_18 : decode cX6_stoodOn 18 = .ok (.lstore 6, 2) := by decide +kernel
theorem dX6_stoodOn_20 : decode cX6_stoodOn 20 = .ok (.iload_n 3, 1) := by decide +kernel
theorem dX6_stoodOn_21 : decode cX6_stoodOn 21 = .ok (.ifCond .ne 11, 3) := by decide +kernel
theorem dX6_stoodOn_24 : decode cX6_stoodOn 24 = .ok (.lload 4, 2) := by decide +kernel
theorem dX6_stoodOn_26 : decode cX6_stoodOn 26 = .ok (.lload 6, 2) := by decide +kernel
theorem dX6_stoodOn_28 : decode cX6_stoodOn 28 = .ok (.iconst 1, 1) := by decide +kernel
theorem dX6_stoodOn_29 : decode cX6_stoodOn 29 = .ok (.lshl, 1) := by decide +kernel
theorem dX6_stoodOn_30 : decode cX6_stoodOn 30 = .ok (.lor, 1) := by decide +kernel
theorem dX6_stoodOn_31 : decode cX6_stoodOn 31 = .ok (.lreturn, 1) := by decide +kernel
theorem dX6_stoodOn_32 : decode cX6_stoodOn 32 = .ok (.lload 6, 2) := by decide +kernel
theorem dX6_stoodOn_34 : decode cX6_stoodOn 34 = .ok (.lconst 0, 1) := by decide +kernel
theorem dX6_stoodOn_35 : decode cX6_stoodOn 35 = .ok (.lcmp, 1) := by decide +kernel
theorem dX6_stoodOn_36 : decode cX6_stoodOn 36 = .ok (.ifCond .ne 8, 3) := by decide +kernel
theorem dX6_stoodOn_39 : decode cX6_stoodOn 39 = .ok (.lload 4, 2) := by decide +kernel
theorem dX6_stoodOn_41 : decode cX6_stoodOn 41 = .ok (.goto 7, 3) := by decide +kernel
theorem dX6_stoodOn_44 : decode cX6_stoodOn 44 = .ok (.lload 4, 2) := by decide +kernel
theorem dX6_stoodOn_46 : decode cX6_stoodOn 46 = .ok (.lconst 1, 1) := by decide +kernel
theorem dX6_stoodOn_47 : decode cX6_stoodOn 47 = .ok (.lor, 1) := by decide +kernel
theorem dX6_stoodOn_48 : decode cX6_stoodOn 48 = .ok (.lreturn, 1) := by decide +kernel
theorem dX6_priceOf_0 : decode cX6_priceOf 0 = .ok (.aload_n 0, 1) := by decide +kernel
theorem dX6_priceOf_1 : decode cX6_priceOf 1 = .ok (.getfield 54, 3) := by decide +kernel
theorem dX6_priceOf_4 : decode cX6_priceOf 4 = .ok (.getfield 192, 3) := by decide +kernel
theorem dX6_priceOf_7 : decode cX6_priceOf 7 = .ok (.aload_n 0, 1) := by decide +kernel
theorem dX6_priceOf_8 : decode cX6_priceOf 8 = .ok (.getfield 175, 3) := by decide +kernel
theorem dX6_priceOf_11 : decode cX6_priceOf 11 = .ok (.iaload, 1) := by decide +kernel
theorem dX6_priceOf_12 : decode cX6_priceOf 12 = .ok (.istore_n 2, 1) := by decide +kernel
theorem dX6_priceOf_13 : decode cX6_priceOf 13 = .ok (.iload_n 1, 1) := by decide +kernel
theorem dX6_priceOf_14 : decode cX6_priceOf 14 = .ok (.aload_n 0, 1) := by decide +kernel
theorem dX6_priceOf_15 : decode cX6_priceOf 15 = .ok (.getfield 54, 3) := by decide +kernel
theorem dX6_priceOf_18 : decode cX6_priceOf 18 = .ok (.getfield 58, 3) := by decide +kernel
theorem dX6_priceOf_21 : decode cX6_priceOf 21 = .ok (.getfield 219, 3) := by decide +kernel
theorem dX6_priceOf_24 : decode cX6_priceOf 24 = .ok (.iand, 1) := by decide +kernel
theorem dX6_priceOf_25 : decode cX6_priceOf 25 = .ok (.iload_n 2, 1) := by decide +kernel
theorem dX6_priceOf_26 : decode cX6_priceOf 26 = .ok (.iconst (-1), 1) := by decide +kernel
theorem dX6_priceOf_27 : decode cX6_priceOf 27 = .ok (.ixor, 1) := by decide +kernel
theorem dX6_priceOf_28 : decode cX6_priceOf 28 = .ok (.iand, 1) := by decide +kernel
theorem dX6_priceOf_29 : decode cX6_priceOf 29 = .ok (.invokestatic 147, 3) := by decide +kernel
theorem dX6_priceOf_32 : decode cX6_priceOf 32 = .ok (.istore_n 3, 1) := by decide +kernel
theorem dX6_priceOf_33 : decode cX6_priceOf 33 = .ok (.iload_n 2, 1) := by decide +kernel
theorem dX6_priceOf_34 : decode cX6_priceOf 34 = .ok (.iload_n 1, 1) := by decide +kernel
theorem dX6_priceOf_35 : decode cX6_priceOf 35 = .ok (.iconst (-1), 1) := by decide +kernel
theorem dX6_priceOf_36 : decode cX6_priceOf 36 = .ok (.ixor, 1) := by decide +kernel
theorem dX6_priceOf_37 : decode cX6_priceOf 37 = .ok (.iand, 1) := by decide +kernel
theorem dX6_priceOf_38 : decode cX6_priceOf 38 = .ok (.invokestatic 147, 3) := by decide +kernel
theorem dX6_priceOf_41 : decode cX6_priceOf 41 = .ok (.istore 4, 2) := by decide +kernel
theorem dX6_priceOf_43 : decode cX6_priceOf 43 = .ok (.ldc2_w 222, 3) := by decide +kernel
theorem dX6_priceOf_46 : decode cX6_priceOf 46 = .ok (.iload_n 3, 1) := by decide +kernel
theorem dX6_priceOf_47 : decode cX6_priceOf 47 = .ok (.aload_n 0, 1) := by decide +kernel
theorem dX6_priceOf_48 : decode cX6_priceOf 48 = .ok (.getfield 126, 3) := by decide +kernel
theorem dX6_priceOf_51 : decode cX6_priceOf 51 = .ok (.imul, 1) := by decide +kernel
theorem dX6_priceOf_52 : decode cX6_priceOf 52 = .ok (.iload 4, 2) := by decide +kernel
theorem dX6_priceOf_54 : decode cX6_priceOf 54 = .ok (.aload_n 0, 1) := by decide +kernel
theorem dX6_priceOf_55 : decode cX6_priceOf 55 = .ok (.getfield 129, 3) := by decide +kernel
theorem dX6_priceOf_58 : decode cX6_priceOf 58 = .ok (.imul, 1) := by decide +kernel
theorem dX6_priceOf_59 : decode cX6_priceOf 59 = .ok (.iadd, 1) := by decide +kernel
theorem dX6_priceOf_60 : decode cX6_priceOf 60 = .ok (.i2l, 1) := by decide +kernel
theorem dX6_priceOf_61 : decode cX6_priceOf 61 = .ok (.lmul, 1) := by decide +kernel
theorem dX6_priceOf_62 : decode cX6_priceOf 62 = .ok (.iload_n 3, 1) := by decide +kernel
theorem dX6_priceOf_63 : decode cX6_priceOf 63 = .ok (.i2l, 1) := by decide +kernel
theorem dX6_priceOf_64 : decode cX6_priceOf 64 = .ok (.ladd, 1) := by decide +kernel
theorem dX6_priceOf_65 : decode cX6_priceOf 65 = .ok (.lreturn, 1) := by decide +kernel
theorem dX6_lesser_0 : decode cX6_lesser 0 = .ok (.lload_n 0, 1) := by decide +kernel
theorem dX6_lesser_1 : decode cX6_lesser 1 = .ok (.lconst 0, 1) := by decide +kernel
theorem dX6_lesser_2 : decode cX6_lesser 2 = .ok (.lcmp, 1) := by decide +kernel
theorem dX6_lesser_3 : decode cX6_lesser 3 = .ok (.ifCond .eq 9, 3) := by decide +kernel
theorem dX6_lesser_6 : decode cX6_lesser 6 = .ok (.lload_n 2, 1) := by decide +kernel
theorem dX6_lesser_7 : decode cX6_lesser 7 = .ok (.lconst 0, 1) := by decide +kernel
theorem dX6_lesser_8 : decode cX6_lesser 8 = .ok (.lcmp, 1) := by decide +kernel
theorem dX6_lesser_9 : decode cX6_lesser 9 = .ok (.ifCond .ne 7, 3) := by decide +kernel
theorem dX6_lesser_12 : decode cX6_lesser 12 = .ok (.lload_n 0, 1) := by decide +kernel
theorem dX6_lesser_13 : decode cX6_lesser 13 = .ok (.lload_n 2, 1) := by decide +kernel
theorem dX6_lesser_14 : decode cX6_lesser 14 = .ok (.ladd, 1) := by decide +kernel
theorem dX6_lesser_15 : decode cX6_lesser 15 = .ok (.lreturn, 1) := by decide +kernel
theorem dX6_lesser_16 : decode cX6_lesser 16 = .ok (.lload_n 0, 1) := by decide +kernel
theorem dX6_lesser_17 : decode cX6_lesser 17 = .ok (.lload_n 2, 1) := by decide +kernel
theorem dX6_lesser_18 : decode cX6_lesser 18 = .ok (.invokestatic 224, 3) := by decide +kernel
theorem dX6_lesser_21 : decode cX6_lesser 21 = .ok (.lreturn, 1) := by decide +kernel
theorem dX6_together_0 : decode cX6_together 0 = .ok (.aload_n 0, 1) := by decide +kernel
theorem dX6_together_1 : decode cX6_together 1 = .ok (.getfield 54, 3) := by decide +kernel
theorem dX6_together_4 : decode cX6_together 4 = .ok (.getfield 88, 3) := by decide +kernel
theorem dX6_together_7 : decode cX6_together 7 = .ok (.iload_n 1, 1) := by decide +kernel
theorem dX6_together_8 : decode cX6_together 8 = .ok (.iaload, 1) := by decide +kernel
theorem dX6_together_9 : decode cX6_together 9 = .ok (.iload_n 2, 1) := by decide +kernel
theorem dX6_together_10 : decode cX6_together 10 = .ok (.invokestatic 116, 3) := by decide +kernel
theorem dX6_together_13 : decode cX6_together 13 = .ok (.aload_n 0, 1) := by decide +kernel
theorem dX6_together_14 : decode cX6_together 14 = .ok (.getfield 54, 3) := by decide +kernel
theorem dX6_together_17 : decode cX6_together 17 = .ok (.getfield 88, 3) := by decide +kernel
theorem dX6_together_20 : decode cX6_together 20 = .ok (.iload_n 1, 1) := by decide +kernel
theorem dX6_together_21 : decode cX6_together 21 = .ok (.iaload, 1) := by decide +kernel
theorem dX6_together_22 : decode cX6_together 22 = .ok (.iload_n 3, 1) := by decide +kernel
theorem dX6_together_23 : decode cX6_together 23 = .ok (.invokestatic 116, 3) := by decide +kernel
theorem dX6_together_26 : decode cX6_together 26 = .ok (.if_icmp .ne 7, 3) := by decide +kernel
theorem dX6_together_29 : decode cX6_together 29 = .ok (.iconst 1, 1) := by decide +kernel
theorem dX6_together_30 : decode cX6_together 30 = .ok (.goto 4, 3) := by decide +kernel
theorem dX6_together_33 : decode cX6_together 33 = .ok (.iconst 0, 1) := by decide +kernel
theorem dX6_together_34 : decode cX6_together 34 = .ok (.ireturn, 1) := by decide +kernel
theorem dX6_isNone_0 : decode cX6_isNone 0 = .ok (.iconst 0, 1) := by decide +kernel
theorem dX6_isNone_1 : decode cX6_isNone 1 = .ok (.istore_n 1, 1) := by decide +kernel
theorem dX6_isNone_2 : decode cX6_isNone 2 = .ok (.iload_n 1, 1) := by decide +kernel
theorem dX6_isNone_3 : decode cX6_isNone 3 = .ok (.aload_n 0, 1) := by decide +kernel
theorem dX6_isNone_4 : decode cX6_isNone 4 = .ok (.getfield 54, 3) := by decide +kernel
theorem dX6_isNone_7 : decode cX6_isNone 7 = .ok (.getfield 85, 3) := by decide +kernel
theorem dX6_isNone_10 : decode cX6_isNone 10 = .ok (.if_icmp .ge 22, 3) := by decide +kernel
theorem dX6_isNone_13 : decode cX6_isNone 13 = .ok (.aload_n 0, 1) := by decide +kernel
theorem dX6_isNone_14 : decode cX6_isNone 14 = .ok (.getfield 35, 3) := by decide +kernel
theorem dX6_isNone_17 : decode cX6_isNone 17 = .ok (.iload_n 1, 1) := by decide +kernel
theorem dX6_isNone_18 : decode cX6_isNone 18 = .ok (.laload, 1) := by decide +kernel
theorem dX6_isNone_19 : decode cX6_isNone 19 = .ok (.lconst 0, 1) := by decide +kernel
theorem dX6_isNone_20 : decode cX6_isNone 20 = .ok (.lcmp, 1) := by decide +kernel
theorem dX6_isNone_21 : decode cX6_isNone 21 = .ok (.ifCond .eq 5, 3) := by decide +kernel
theorem dX6_isNone_24 : decode cX6_isNone 24 = .ok (.iconst 0, 1) := by decide +kernel
theorem dX6_isNone_25 : decode cX6_isNone 25 = .ok (.ireturn, 1) := by decide +kernel
theorem dX6_isNone_26 : decode cX6_isNone 26 = .ok (.iinc 1 1, 3) := by decide +kernel
theorem dX6_isNone_29 : decode cX6_isNone 29 = .ok (.goto (-27), 3) := by decide +kernel
theorem dX6_isNone_32 : decode cX6_isNone 32 = .ok (.iconst 1, 1) := by decide +kernel
theorem dX6_isNone_33 : decode cX6_isNone 33 = .ok (.ireturn, 1) := by decide +kernel
theorem dX6_isIn_0 : decode cX6_isIn 0 = .ok (.aload_n 0, 1) := by decide +kernel
theorem dX6_isIn_1 : decode cX6_isIn 1 = .ok (.getfield 18, 3) := by decide +kernel
theorem dX6_isIn_4 : decode cX6_isIn 4 = .ok (.iload_n 2, 1) := by decide +kernel
theorem dX6_isIn_5 : decode cX6_isIn 5 = .ok (.bipush 27, 2) := by decide +kernel
theorem dX6_isIn_7 : decode cX6_isIn 7 = .ok (.imul, 1) := by decide +kernel
theorem dX6_isIn_8 : decode cX6_isIn 8 = .ok (.iload_n 1, 1) := by decide +kernel
theorem dX6_isIn_9 : decode cX6_isIn 9 = .ok (.bipush 6, 2) := by decide +kernel
theorem dX6_isIn_11 : decode cX6_isIn 11 = .ok (.ishr, 1) := by decide +kernel
theorem dX6_isIn_12 : decode cX6_isIn 12 = .ok (.iadd, 1) := by decide +kernel
theorem dX6_isIn_13 : decode cX6_isIn 13 = .ok (.laload, 1) := by decide +kernel
theorem dX6_isIn_14 : decode cX6_isIn 14 = .ok (.iload_n 1, 1) := by decide +kernel
theorem dX6_isIn_15 : decode cX6_isIn 15 = .ok (.bipush 63, 2) := by decide +kernel
theorem dX6_isIn_17 : decode cX6_isIn 17 = .ok (.iand, 1) := by decide +kernel
theorem dX6_isIn_18 : decode cX6_isIn 18 = .ok (.lshr, 1) := by decide +kernel
theorem dX6_isIn_19 : decode cX6_isIn 19 = .ok (.lconst 1, 1) := by decide +kernel
theorem dX6_isIn_20 : decode cX6_isIn 20 = .ok (.land, 1) := by decide +kernel
theorem dX6_isIn_21 : decode cX6_isIn 21 = .ok (.lconst 0, 1) := by decide +kernel
theorem dX6_isIn_22 : decode cX6_isIn 22 = .ok (.lcmp, 1) := by decide +kernel
theorem dX6_isIn_23 : decode cX6_isIn 23 = .ok (.ifCond .eq 7, 3) := by decide +kernel
theorem dX6_isIn_26 : decode cX6_isIn 26 = .ok (.iconst 1, 1) := by decide +kernel
theorem dX6_isIn_27 : decode cX6_isIn 27 = .ok (.goto 4, 3) := by decide +kernel
theorem dX6_isIn_30 : decode cX6_isIn 30 = .ok (.iconst 0, 1) := by decide +kernel
theorem dX6_isIn_31 : decode cX6_isIn 31 = .ok (.ireturn, 1) := by decide +kernel
theorem dX6_keepSet_0 : decode cX6_keepSet 0 = .ok (.iconst 0, 1) := by decide +kernel
theorem dX6_keepSet_1 : decode cX6_keepSet 1 = .ok (.istore_n 2, 1) := by decide +kernel
theorem dX6_keepSet_2 : decode cX6_keepSet 2 = .ok (.iload_n 2, 1) := by decide +kernel
theorem dX6_keepSet_3 : decode cX6_keepSet 3 = .ok (.bipush 27, 2) := by decide +kernel
theorem dX6_keepSet_5 : decode cX6_keepSet 5 = .ok (.if_icmp .ge 21, 3) := by decide +kernel
theorem dX6_keepSet_8 : decode cX6_keepSet 8 = .ok (.aload_n 0, 1) := by decide +kernel
theorem dX6_keepSet_9 : decode cX6_keepSet 9 = .ok (.getfield 18, 3) := by decide +kernel
theorem dX6_keepSet_12 : decode cX6_keepSet 12 = .ok (.iload_n 1, 1) := by decide +kernel
theorem dX6_keepSet_13 : decode cX6_keepSet 13 = .ok (.bipush 27, 2) := by decide +kernel
theorem dX6_keepSet_15 : decode cX6_keepSet 15 = .ok (.imul, 1) := by decide +kernel
theorem dX6_keepSet_16 : decode cX6_keepSet 16 = .ok (.iload_n 2, 1) := by decide +kernel
theorem dX6_keepSet_17 : decode cX6_keepSet 17 = .ok (.iadd, 1) := by decide +kernel
theorem dX6_keepSet_18 : decode cX6_keepSet 18 = .ok (.lconst 0, 1) := by decide +kernel
theorem dX6_keepSet_19 : decode cX6_keepSet 19 = .ok (.lastore, 1) := by decide +kernel
theorem dX6_keepSet_20 : decode cX6_keepSet 20 = .ok (.iinc 2 1, 3) := by decide +kernel
theorem dX6_keepSet_23 : decode cX6_keepSet 23 = .ok (.goto (-21), 3) := by decide +kernel
theorem dX6_keepSet_26 : decode cX6_keepSet 26 = .ok (.iconst 0, 1) := by decide +kernel
theorem dX6_keepSet_27 : decode cX6_keepSet 27 = .ok (.istore_n 2, 1) := by decide +kernel
theorem dX6_keepSet_28 : decode cX6_keepSet 28 = .ok (.iload_n 2, 1) := by decide +kernel
theorem dX6_keepSet_29 : decode cX6_keepSet 29 = .ok (.aload_n 0, 1) := by decide +kernel
theorem dX6_keepSet_30 : decode cX6_keepSet 30 = .ok (.getfield 54, 3) := by decide +kernel
theorem dX6_keepSet_33 : decode cX6_keepSet 33 = .ok (.getfield 85, 3) := by decide +kernel
theorem dX6_keepSet_36 : decode cX6_keepSet 36 = .ok (.if_icmp .ge 43, 3) := by decide +kernel
theorem dX6_keepSet_39 : decode cX6_keepSet 39 = .ok (.aload_n 0, 1) := by decide +kernel
theorem dX6_keepSet_40 : decode cX6_keepSet 40 = .ok (.getfield 35, 3) := by decide +kernel
theorem dX6_keepSet_43 : decode cX6_keepSet 43 = .ok (.iload_n 2, 1) := by decide +kernel
theorem dX6_keepSet_44 : decode cX6_keepSet 44 = .ok (.laload, 1) := by decide +kernel
theorem dX6_keepSet_45 : decode cX6_keepSet 45 = .ok (.lconst 0, 1) := by decide +kernel
theorem dX6_keepSet_46 : decode cX6_keepSet 46 = .ok (.lcmp, 1) := by decide +kernel
theorem dX6_keepSet_47 : decode cX6_keepSet 47 = .ok (.ifCond .eq 26, 3) := by decide +kernel
theorem dX6_keepSet_50 : decode cX6_keepSet 50 = .ok (.aload_n 0, 1) := by decide +kernel
theorem dX6_keepSet_51 : decode cX6_keepSet 51 = .ok (.getfield 18, 3) := by decide +kernel
theorem dX6_keepSet_54 : decode cX6_keepSet 54 = .ok (.iload_n 1, 1) := by decide +kernel
theorem dX6_keepSet_55 : decode cX6_keepSet 55 = .ok (.bipush 27, 2) := by decide +kernel
theorem dX6_keepSet_57 : decode cX6_keepSet 57 = .ok (.imul, 1) := by decide +kernel
theorem dX6_keepSet_58 : decode cX6_keepSet 58 = .ok (.iload_n 2, 1) := by decide +kernel
theorem dX6_keepSet_59 : decode cX6_keepSet 59 = .ok (.bipush 6, 2) := by decide +kernel
theorem dX6_keepSet_61 : decode cX6_keepSet 61 = .ok (.ishr, 1) := by decide +kernel
theorem dX6_keepSet_62 : decode cX6_keepSet 62 = .ok (.iadd, 1) := by decide +kernel
theorem dX6_keepSet_63 : decode cX6_keepSet 63 = .ok (.dup2, 1) := by decide +kernel
theorem dX6_keepSet_64 : decode cX6_keepSet 64 = .ok (.laload, 1) := by decide +kernel
theorem dX6_keepSet_65 : decode cX6_keepSet 65 = .ok (.lconst 1, 1) := by decide +kernel
theorem dX6_keepSet_66 : decode cX6_keepSet 66 = .ok (.iload_n 2, 1) := by decide +kernel
theorem dX6_keepSet_67 : decode cX6_keepSet 67 = .ok (.bipush 63, 2) := by decide +kernel
theorem dX6_keepSet_69 : decode cX6_keepSet 69 = .ok (.iand, 1) := by decide +kernel
theorem dX6_keepSet_70 : decode cX6_keepSet 70 = .ok (.lshl, 1) := by decide +kernel
theorem dX6_keepSet_71 : decode cX6_keepSet 71 = .ok (.lor, 1) := by decide +kernel
theorem dX6_keepSet_72 : decode cX6_keepSet 72 = .ok (.lastore, 1) := by decide +kernel
theorem dX6_keepSet_73 : decode cX6_keepSet 73 = .ok (.iinc 2 1, 3) := by decide +kernel
theorem dX6_keepSet_76 : decode cX6_keepSet 76 = .ok (.goto (-48), 3) := by decide +kernel
theorem dX6_keepSet_79 : decode cX6_keepSet 79 = .ok (.return_, 1) := by decide +kernel
theorem dX6_loadSet_0 : decode cX6_loadSet 0 = .ok (.iconst 0, 1) := by decide +kernel
theorem dX6_loadSet_1 : decode cX6_loadSet 1 = .ok (.istore_n 2, 1) := by decide +kernel
theorem dX6_loadSet_2 : decode cX6_loadSet 2 = .ok (.iload_n 2, 1) := by decide +kernel
theorem dX6_loadSet_3 : decode cX6_loadSet 3 = .ok (.aload_n 0, 1) := by decide +kernel
theorem dX6_loadSet_4 : decode cX6_loadSet 4 = .ok (.getfield 54, 3) := by decide +kernel
theorem dX6_loadSet_7 : decode cX6_loadSet 7 = .ok (.getfield 85, 3) := by decide +kernel
theorem dX6_loadSet_10 : decode cX6_loadSet 10 = .ok (.if_icmp .ge 29, 3) := by decide +kernel
theorem dX6_loadSet_13 : decode cX6_loadSet 13 = .ok (.aload_n 0, 1) := by decide +kernel
theorem dX6_loadSet_14 : decode cX6_loadSet 14 = .ok (.getfield 35, 3) := by decide +kernel
theorem dX6_loadSet_17 : decode cX6_loadSet 17 = .ok (.iload_n 2, 1) := by decide +kernel
theorem dX6_loadSet_18 : decode cX6_loadSet 18 = .ok (.aload_n 0, 1) := by decide +kernel
theorem dX6_loadSet_19 : decode cX6_loadSet 19 = .ok (.iload_n 2, 1) := by decide +kernel
theorem dX6_loadSet_20 : decode cX6_loadSet 20 = .ok (.iload_n 1, 1) := by decide +kernel
theorem dX6_loadSet_21 : decode cX6_loadSet 21 = .ok (.invokevirtual 138, 3) := by decide +kernel
theorem dX6_loadSet_24 : decode cX6_loadSet 24 = .ok (.ifCond .eq 7, 3) := by decide +kernel
theorem dX6_loadSet_27 : decode cX6_loadSet 27 = .ok (.lconst 1, 1) := by decide +kernel
theorem dX6_loadSet_28 : decode cX6_loadSet 28 = .ok (.goto 4, 3) := by decide +kernel
theorem dX6_loadSet_31 : decode cX6_loadSet 31 = .ok (.lconst 0, 1) := by decide +kernel
theorem dX6_loadSet_32 : decode cX6_loadSet 32 = .ok (.lastore, 1) := by decide +kernel
theorem dX6_loadSet_33 : decode cX6_loadSet 33 = .ok (.iinc 2 1, 3) := by decide +kernel
theorem dX6_loadSet_36 : decode cX6_loadSet 36 = .ok (.goto (-34), 3) := by decide +kernel
theorem dX6_loadSet_39 : decode cX6_loadSet 39 = .ok (.return_, 1) := by decide +kernel
theorem dX7_init_0 : decode cX7_init 0 = .ok (.aload_n 0, 1) := by decide +kernel
theorem dX7_init_1 : decode cX7_init 1 = .ok (.invokespecial 3, 3) := by decide +kernel
theorem dX7_init_4 : decode cX7_init 4 = .ok (.aload_n 0, 1) := by decide +kernel
theorem dX7_init_5 : decode cX7_init 5 = .ok (.new 9, 3) := by decide +kernel
theorem dX7_init_8 : decode cX7_init 8 = .ok (.dup, 1) := by decide +kernel
theorem dX7_init_9 : decode cX7_init 9 = .ok (.bipush 6, 2) := by decide +kernel
theorem dX7_init_11 : decode cX7_init 11 = .ok (.bipush 40, 2) := by decide +kernel
theorem dX7_init_13 : decode cX7_init 13 = .ok (.invokespecial 11, 3) := by decide +kernel
theorem dX7_init_16 : decode cX7_init 16 = .ok (.putfield 14, 3) := by decide +kernel
theorem dX7_init_19 : decode cX7_init 19 = .ok (.aload_n 0, 1) := by decide +kernel
theorem dX7_init_20 : decode cX7_init 20 = .ok (.new 9, 3) := by decide +kernel
theorem dX7_init_23 : decode cX7_init 23 = .ok (.dup, 1) := by decide +kernel
theorem dX7_init_24 : decode cX7_init 24 = .ok (.iconst 4, 1) := by decide +kernel
theorem dX7_init_25 : decode cX7_init 25 = .ok (.bipush 80, 2) := by decide +kernel
theorem dX7_init_27 : decode cX7_init 27 = .ok (.invokespecial 11, 3) := by decide +kernel
theorem dX7_init_30 : decode cX7_init 30 = .ok (.putfield 18, 3) := by decide +kernel
theorem dX7_init_33 : decode cX7_init 33 = .ok (.aload_n 0, 1) := by decide +kernel
theorem dX7_init_34 : decode cX7_init 34 = .ok (.new 21, 3) := by decide +kernel
theorem dX7_init_37 : decode cX7_init 37 = .ok (.dup, 1) := by decide +kernel
theorem dX7_init_38 : decode cX7_init 38 = .ok (.invokespecial 23, 3) := by decide +kernel
theorem dX7_init_41 : decode cX7_init 41 = .ok (.putfield 24, 3) := by decide +kernel
theorem dX7_init_44 : decode cX7_init 44 = .ok (.aload_n 0, 1) := by decide +kernel
theorem dX7_init_45 : decode cX7_init 45 = .ok (.new 28, 3) := by decide +kernel
theorem dX7_init_48 : decode cX7_init 48 = .ok (.dup, 1) := by decide +kernel
theorem dX7_init_49 : decode cX7_init 49 = .ok (.invokespecial 30, 3) := by decide +kernel
theorem dX7_init_52 : decode cX7_init 52 = .ok (.putfield 31, 3) := by decide +kernel
theorem dX7_init_55 : decode cX7_init 55 = .ok (.aload_n 0, 1) := by decide +kernel
theorem dX7_init_56 : decode cX7_init 56 = .ok (.new 35, 3) := by decide +kernel
theorem dX7_init_59 : decode cX7_init 59 = .ok (.dup, 1) := by decide +kernel
theorem dX7_init_60 : decode cX7_init 60 = .ok (.invokespecial 37, 3) := by decide +kernel
theorem dX7_init_63 : decode cX7_init 63 = .ok (.putfield 38, 3) := by decide +kernel
theorem dX7_init_66 : decode cX7_init 66 = .ok (.aload_n 0, 1) := by decide +kernel
theorem dX7_init_67 : decode cX7_init 67 = .ok (.new 35, 3) := by decide +kernel
theorem dX7_init_70 : decode cX7_init 70 = .ok (.dup, 1) := by decide +kernel
theorem dX7_init_71 : decode cX7_init 71 = .ok (.invokespecial 37, 3) := by decide +kernel
theorem dX7_init_74 : decode cX7_init 74 = .ok (.putfield 42, 3) := by decide +kernel
theorem dX7_init_77 : decode cX7_init 77 = .ok (.aload_n 0, 1) := by decide +kernel
theorem dX7_init_78 : decode cX7_init 78 = .ok (.new 45, 3) := by decide +kernel
theorem dX7_init_81 : decode cX7_init 81 = .ok (.dup, 1) := by decide +kernel
theorem dX7_init_82 : decode cX7_init 82 = .ok (.aload_n 0, 1) := by decide +kernel
theorem dX7_init_83 : decode cX7_init 83 = .ok (.getfield 38, 3) := by decide +kernel
theorem dX7_init_86 : decode cX7_init 86 = .ok (.invokespecial 47, 3) := by decide +kernel
theorem dX7_init_89 : decode cX7_init 89 = .ok (.putfield 50, 3) := by decide +kernel
theorem dX7_init_92 : decode cX7_init 92 = .ok (.aload_n 0, 1) := by decide +kernel
theorem dX7_init_93 : decode cX7_init 93 = .ok (.new 45, 3) := by decide +kernel
theorem dX7_init_96 : decode cX7_init 96 = .ok (.dup, 1) := by decide +kernel
theorem dX7_init_97 : decode cX7_init 97 = .ok (.aload_n 0, 1) := by decide +kernel
theorem dX7_init_98 : decode cX7_init 98 = .ok (.getfield 38, 3) := by decide +kernel
theorem dX7_init_101 : decode cX7_init 101 = .ok (.invokespecial 47, 3) := by decide +kernel
theorem dX7_init_104 : decode cX7_init 104 = .ok (.putfield 54, 3) := by decide +kernel
theorem dX7_init_107 : decode cX7_init 107 = .ok (.aload_n 0, 1) := by decide +kernel
theorem dX7_init_108 : decode cX7_init 108 = .ok (.new 57, 3) := by decide +kernel
theorem dX7_init_111 : decode cX7_init 111 = .ok (.dup, 1) := by decide +kernel
theorem dX7_init_112 : decode cX7_init 112 = .ok (.invokespecial 59, 3) := by decide +kernel
theorem dX7_init_115 : decode cX7_init 115 = .ok (.putfield 60, 3) := by decide +kernel
theorem dX7_init_118 : decode cX7_init 118 = .ok (.aload_n 0, 1) := by decide +kernel
theorem dX7_init_119 : decode cX7_init 119 = .ok (.new 57, 3) := by decide +kernel
theorem dX7_init_122 : decode cX7_init 122 = .ok (.dup, 1) := by decide +kernel
theorem dX7_init_123 : decode cX7_init 123 = .ok (.invokespecial 59, 3) := by decide +kernel
theorem dX7_init_126 : decode cX7_init 126 = .ok (.putfield 64, 3) := by decide +kernel
theorem dX7_init_129 : decode cX7_init 129 = .ok (.aload_n 0, 1) := by decide +kernel
theorem dX7_init_130 : decode cX7_init 130 = .ok (.bipush 6, 2) := by decide +kernel
theorem dX7_init_132 : decode cX7_init 132 = .ok (.newarray .int, 2) := by decide +kernel
theorem dX7_init_134 : decode cX7_init 134 = .ok (.putfield 67, 3) := by decide +kernel
theorem dX7_init_137 : decode cX7_init 137 = .ok (.aload_n 0, 1) := by decide +kernel
theorem dX7_init_138 : decode cX7_init 138 = .ok (.lconst 1, 1) := by decide +kernel
theorem dX7_init_139 : decode cX7_init 139 = .ok (.putfield 71, 3) := by decide +kernel
theorem dX7_init_142 : decode cX7_init 142 = .ok (.return_, 1) := by decide +kernel
theorem dX7_text_0 : decode cX7_text 0 = .ok (.aload_n 0, 1) := by decide +kernel
theorem dX7_text_1 : decode cX7_text 1 = .ok (.getfield 18, 3) := by decide +kernel
theorem dX7_text_4 : decode cX7_text 4 = .ok (.iload_n 1, 1) := by decide +kernel
theorem dX7_text_5 : decode cX7_text 5 = .ok (.invokevirtual 75, 3) := by decide +kernel
theorem dX7_text_8 : decode cX7_text 8 = .ok (.ifCond .eq 9, 3) := by decide +kernel
theorem dX7_text_11 : decode cX7_text 11 = .ok (.iload_n 2, 1) := by decide +kernel
theorem dX7_text_12 : decode cX7_text 12 = .ok (.bipush 80, 2) := by decide +kernel
theorem dX7_text_14 : decode cX7_text 14 = .ok (.if_icmp .le 5, 3) := by decide +kernel
theorem dX7_text_17 : decode cX7_text 17 = .ok (.iconst (-1), 1) := by decide +kernel
theorem dX7_text_18 : decode cX7_text 18 = .ok (.ireturn, 1) := by decide +kernel
theorem dX7_text_19 : decode cX7_text 19 = .ok (.iload_n 2, 1) := by decide +kernel
theorem dX7_text_20 : decode cX7_text 20 = .ok (.ifCond .ge 9, 3) := by decide +kernel
theorem dX7_text_23 : decode cX7_text 23 = .ok (.aload_n 0, 1) := by decide +kernel
theorem dX7_text_24 : decode cX7_text 24 = .ok (.iconst 5, 1) := by decide +kernel
theorem dX7_text_25 : decode cX7_text 25 = .ok (.invokevirtual 79, 3) := by decide +kernel
theorem dX7_text_28 : decode cX7_text 28 = .ok (.ireturn, 1) := by decide +kernel
theorem dX7_text_29 : decode cX7_text 29 = .ok (.aload_n 0, 1) := by decide +kernel
theorem dX7_text_30 : decode cX7_text 30 = .ok (.getfield 18, 3) := by decide +kernel
theorem dX7_text_33 : decode cX7_text 33 = .ok (.iload_n 1, 1) := by decide +kernel
theorem dX7_text_34 : decode cX7_text 34 = .ok (.iload_n 2, 1) := by decide +kernel
theorem dX7_text_35 : decode cX7_text 35 = .ok (.bipush 32, 2) := by decide +kernel
theorem dX7_text_37 : decode cX7_text 37 = .ok (.invokevirtual 83, 3) := by decide +kernel
theorem dX7_text_40 : decode cX7_text 40 = .ok (.iload_n 2, 1) := by decide +kernel
theorem dX7_text_41 : decode cX7_text 41 = .ok (.ireturn, 1) := by decide +kernel
theorem dX7_put_0 : decode cX7_put 0 = .ok (.aload_n 0, 1) := by decide +kernel
theorem dX7_put_1 : decode cX7_put 1 = .ok (.getfield 18, 3) := by decide +kernel
theorem dX7_put_4 : decode cX7_put 4 = .ok (.iload_n 1, 1) := by decide +kernel
theorem dX7_put_5 : decode cX7_put 5 = .ok (.invokevirtual 75, 3) := by decide +kernel
theorem dX7_put_8 : decode cX7_put 8 = .ok (.ifCond .ne 5, 3) := by decide +kernel
theorem dX7_put_11 : decode cX7_put 11 = .ok (.iconst (-1), 1) := by decide +kernel
theorem dX7_put_12 : decode cX7_put 12 = .ok (.ireturn, 1) := by decide +kernel
theorem dX7_put_13 : decode cX7_put 13 = .ok (.aload_n 0, 1) := by decide +kernel
theorem dX7_put_14 : decode cX7_put 14 = .ok (.getfield 18, 3) := by decide +kernel
theorem dX7_put_17 : decode cX7_put 17 = .ok (.iload_n 1, 1) := by decide +kernel
theorem dX7_put_18 : decode cX7_put 18 = .ok (.invokevirtual 87, 3) := by decide +kernel
theorem dX7_put_21 : decode cX7_put 21 = .ok (.ifCond .eq 9, 3) := by decide +kernel
theorem dX7_put_24 : decode cX7_put 24 = .ok (.aload_n 0, 1) := by decide +kernel
theorem dX7_put_25 : decode cX7_put 25 = .ok (.iconst 1, 1) := by decide +kernel
theorem dX7_put_26 : decode cX7_put 26 = .ok (.invokevirtual 79, 3) := by decide +kernel
theorem dX7_put_29 : decode cX7_put 29 = .ok (.ireturn, 1) := by decide +kernel
theorem dX7_put_30 : decode cX7_put 30 = .ok (.aload_n 0, 1) := by decide +kernel
theorem dX7_put_31 : decode cX7_put 31 = .ok (.getfield 18, 3) := by decide +kernel
theorem dX7_put_34 : decode cX7_put 34 = .ok (.iload_n 1, 1) := by decide +kernel
theorem dX7_put_35 : decode cX7_put 35 = .ok (.iload_n 2, 1) := by decide +kernel
theorem dX7_put_36 : decode cX7_put 36 = .ok (.invokevirtual 90, 3) := by decide +kernel
theorem dX7_put_39 : decode cX7_put 39 = .ok (.ifCond .ne 9, 3) := by decide +kernel
theorem dX7_put_42 : decode cX7_put 42 = .ok (.aload_n 0, 1) := by decide +kernel
theorem dX7_put_43 : decode cX7_put 43 = .ok (.iconst 2, 1) := by decide +kernel
theorem dX7_put_44 : decode cX7_put 44 = .ok (.invokevirtual 79, 3) := by decide +kernel
theorem dX7_put_47 : decode cX7_put 47 = .ok (.ireturn, 1) := by decide +kernel
theorem dX7_put_48 : decode cX7_put 48 = .ok (.aload_n 0, 1) := by decide +kernel
theorem dX7_put_49 : decode cX7_put 49 = .ok (.getfield 18, 3) := by decide +kernel
theorem dX7_put_52 : decode cX7_put 52 = .ok (.iload_n 1, 1) := by decide +kernel
theorem dX7_put_53 : decode cX7_put 53 = .ok (.iload_n 2, 1) := by decide +kernel
theorem dX7_put_54 : decode cX7_put 54 = .ok (.iload_n 3, 1) := by decide +kernel
theorem dX7_put_55 : decode cX7_put 55 = .ok (.i2b, 1) := by decide +kernel
theorem dX7_put_56 : decode cX7_put 56 = .ok (.invokevirtual 94, 3) := by decide +kernel
theorem dX7_put_59 : decode cX7_put 59 = .ok (.sipush 1000, 3) := by decide +kernel
theorem dX7_put_62 : decode cX7_put 62 = .ok (.iadd, 1) := by decide +kernel
theorem dX7_put_63 : decode cX7_put 63 = .ok (.ireturn, 1) := by decide +kernel
theorem dX7_fault_0 : decode cX7_fault 0 = .ok (.aload_n 0, 1) := by decide +kernel
theorem dX7_fault_1 : decode cX7_fault 1 = .ok (.getfield 18, 3) := by decide +kernel
theorem dX7_fault_4 : decode cX7_fault 4 = .ok (.iload_n 1, 1) := by decide +kernel
theorem dX7_fault_5 : decode cX7_fault 5 = .ok (.invokevirtual 75, 3) := by decide +kernel
theorem dX7_fault_8 : decode cX7_fault 8 = .ok (.ifCond .ne 5, 3) := by decide +kernel
theorem dX7_fault_11 : decode cX7_fault 11 = .ok (.iconst (-1), 1) := by decide +kernel
theorem dX7_fault_12 : decode cX7_fault 12 = .ok (.ireturn, 1) := by decide +kernel
theorem dX7_fault_13 : decode cX7_fault 13 = .ok (.aload_n 0, 1) := by decide +kernel
theorem dX7_fault_14 : decode cX7_fault 14 = .ok (.getfield 18, 3) := by decide +kernel
theorem dX7_fault_17 : decode cX7_fault 17 = .ok (.iload_n 1, 1) := by decide +kernel
theorem dX7_fault_18 : decode cX7_fault 18 = .ok (.invokevirtual 87, 3) := by decide +kernel
theorem dX7_fault_21 : decode cX7_fault 21 = .ok (.ifCond .eq 9, 3) := by decide +kernel
theorem dX7_fault_24 : decode cX7_fault 24 = .ok (.aload_n 0, 1) := by decide +kernel
theorem dX7_fault_25 : decode cX7_fault 25 = .ok (.iconst 1, 1) := by decide +kernel
theorem dX7_fault_26 : decode cX7_fault 26 = .ok (.invokevirtual 79, 3) := by decide +kernel
theorem dX7_fault_29 : decode cX7_fault 29 = .ok (.ireturn, 1) := by decide +kernel
theorem dX7_fault_30 : decode cX7_fault 30 = .ok (.iload_n 2, 1) := by decide +kernel
theorem dX7_fault_31 : decode cX7_fault 31 = .ok (.ifCond .eq 11, 3) := by decide +kernel
theorem dX7_fault_34 : decode cX7_fault 34 = .ok (.aload_n 0, 1) := by decide +kernel
theorem dX7_fault_35 : decode cX7_fault 35 = .ok (.iload_n 1, 1) := by decide +kernel
theorem dX7_fault_36 : decode cX7_fault 36 = .ok (.invokevirtual 118, 3) := by decide +kernel
theorem dX7_fault_39 : decode cX7_fault 39 = .ok (.goto 8, 3) := by decide +kernel
theorem dX7_fault_42 : decode cX7_fault 42 = .ok (.aload_n 0, 1) := by decide +kernel
theorem dX7_fault_43 : decode cX7_fault 43 = .ok (.iload_n 1, 1) := by decide +kernel
theorem dX7_fault_44 : decode cX7_fault 44 = .ok (.invokevirtual 121, 3) := by decide +kernel
theorem dX7_fault_47 : decode cX7_fault 47 = .ok (.ireturn, 1) := by decide +kernel
theorem dX7_house_0 : decode cX7_house 0 = .ok (.aload_n 0, 1) := by decide +kernel
theorem dX7_house_1 : decode cX7_house 1 = .ok (.getfield 18, 3) := by decide +kernel
theorem dX7_house_4 : decode cX7_house 4 = .ok (.iload_n 1, 1) := by decide +kernel
theorem dX7_house_5 : decode cX7_house 5 = .ok (.invokevirtual 75, 3) := by decide +kernel
theorem dX7_house_8 : decode cX7_house 8 = .ok (.ifCond .ne 5, 3) := by decide +kernel
theorem dX7_house_11 : decode cX7_house 11 = .ok (.iconst (-1), 1) := by decide +kernel
theorem dX7_house_12 : decode cX7_house 12 = .ok (.ireturn, 1) := by decide +kernel
theorem dX7_house_13 : decode cX7_house 13 = .ok (.aload_n 0, 1) := by decide +kernel
theorem dX7_house_14 : decode cX7_house 14 = .ok (.getfield 18, 3) := by decide +kernel
theorem dX7_house_17 : decode cX7_house 17 = .ok (.iload_n 1, 1) := by decide +kernel
theorem dX7_house_18 : decode cX7_house 18 = .ok (.invokevirtual 87, 3) := by decide +kernel
theorem dX7_house_21 : decode cX7_house 21 = .ok (.ifCond .eq 9, 3) := by decide +kernel
theorem dX7_house_24 : decode cX7_house 24 = .ok (.aload_n 0, 1) := by decide +kernel
theorem dX7_house_25 : decode cX7_house 25 = .ok (.iconst 1, 1) := by decide +kernel
theorem dX7_house_26 : decode cX7_house 26 = .ok (.invokevirtual 79, 3) := by decide +kernel
theorem dX7_house_29 : decode cX7_house 29 = .ok (.ireturn, 1) := by decide +kernel
theorem dX7_house_30 : decode cX7_house 30 = .ok (.aload_n 0, 1) := by decide +kernel
theorem dX7_house_31 : decode cX7_house 31 = .ok (.iload_n 1, 1) := by decide +kernel
theorem dX7_house_32 : decode cX7_house 32 = .ok (.invokevirtual 121, 3) := by decide +kernel
theorem dX7_house_35 : decode cX7_house 35 = .ok (.bipush (-9), 2) := by decide +kernel
theorem dX7_house_37 : decode cX7_house 37 = .ok (.if_icmp .eq 6, 3) := by decide +kernel
theorem dX7_house_40 : decode cX7_house 40 = .ok (.bipush (-4), 2) := by decide +kernel
theorem dX7_house_42 : decode cX7_house 42 = .ok (.ireturn, 1) := by decide +kernel
theorem dX7_house_43 : decode cX7_house 43 = .ok (.aload_n 0, 1) := by decide +kernel
theorem dX7_house_44 : decode cX7_house 44 = .ok (.getfield 38, 3) := by decide +kernel
theorem dX7_house_47 : decode cX7_house 47 = .ok (.astore_n 2, 1) := by decide +kernel
theorem dX7_house_48 : decode cX7_house 48 = .ok (.aload_n 0, 1) := by decide +kernel
theorem dX7_house_49 : decode cX7_house 49 = .ok (.aload_n 0, 1) := by decide +kernel
theorem dX7_house_50 : decode cX7_house 50 = .ok (.getfield 42, 3) := by decide +kernel
theorem dX7_house_53 : decode cX7_house 53 = .ok (.putfield 38, 3) := by decide +kernel
theorem dX7_house_56 : decode cX7_house 56 = .ok (.aload_n 0, 1) := by decide +kernel
theorem dX7_house_57 : decode cX7_house 57 = .ok (.aload_n 2, 1) := by decide +kernel
theorem dX7_house_58 : decode cX7_house 58 = .ok (.putfield 42, 3) := by decide +kernel
theorem dX7_house_61 : decode cX7_house 61 = .ok (.aload_n 0, 1) := by decide +kernel
theorem dX7_house_62 : decode cX7_house 62 = .ok (.getfield 60, 3) := by decide +kernel
theorem dX7_house_65 : decode cX7_house 65 = .ok (.iconst 0, 1) := by decide +kernel
theorem dX7_house_66 : decode cX7_house 66 = .ok (.putfield 124, 3) := by decide +kernel
theorem dX7_house_69 : decode cX7_house 69 = .ok (.aload_n 0, 1) := by decide +kernel
theorem dX7_house_70 : decode cX7_house 70 = .ok (.iconst 0, 1) := by decide +kernel
theorem dX7_house_71 : decode cX7_house 71 = .ok (.putfield 128, 3) := by decide +kernel
theorem dX7_house_74 : decode cX7_house 74 = .ok (.aload_n 0, 1) := by decide +kernel
theorem dX7_house_75 : decode cX7_house 75 = .ok (.getfield 38, 3) := by decide +kernel
theorem dX7_house_78 : decode cX7_house 78 = .ok (.getfield 132, 3) := by decide +kernel
theorem dX7_house_81 : decode cX7_house 81 = .ok (.ireturn, 1) := by decide +kernel
theorem dX7_event_0 : decode cX7_event 0 = .ok (.aload_n 0, 1) := by decide +kernel
theorem dX7_event_1 : decode cX7_event 1 = .ok (.getfield 38, 3) := by decide +kernel
theorem dX7_event_4 : decode cX7_event 4 = .ok (.iload_n 1, 1) := by decide +kernel
theorem dX7_event_5 : decode cX7_event 5 = .ok (.iload_n 2, 1) := by decide +kernel
theorem dX7_event_6 : decode cX7_event 6 = .ok (.iload_n 3, 1) := by decide +kernel
theorem dX7_event_7 : decode cX7_event 7 = .ok (.iload 4, 2) := by decide +kernel
theorem dX7_event_9 : decode cX7_event 9 = .ok (.invokevirtual 139, 3) := by decide +kernel
theorem dX7_event_12 : decode cX7_event 12 = .ok (.ifCond .ne 5, 3) := by decide +kernel
theorem dX7_event_15 : decode cX7_event 15 = .ok (.iconst (-1), 1) := by decide +kernel
theorem dX7_event_16 : decode cX7_event 16 = .ok (.ireturn, 1) := by decide +kernel
theorem dX7_event_17 : decode cX7_event 17 = .ok (.aload_n 0, 1) := by decide +kernel
theorem dX7_event_18 : decode cX7_event 18 = .ok (.getfield 60, 3) := by decide +kernel
theorem dX7_event_21 : decode cX7_event 21 = .ok (.getfield 124, 3) := by decide +kernel
theorem dX7_event_24 : decode cX7_event 24 = .ok (.bipush 24, 2) := by decide +kernel
theorem dX7_event_26 : decode cX7_event 26 = .ok (.if_icmp .lt 6, 3) := by decide +kernel
theorem dX7_event_29 : decode cX7_event 29 = .ok (.bipush (-2), 2) := by decide +kernel
theorem dX7_event_31 : decode cX7_event 31 = .ok (.ireturn, 1) := by decide +kernel
theorem dX7_event_32 : decode cX7_event 32 = .ok (.aload_n 0, 1) := by decide +kernel
theorem dX7_event_33 : decode cX7_event 33 = .ok (.getfield 60, 3) := by decide +kernel
theorem dX7_event_36 : decode cX7_event 36 = .ok (.iload_n 1, 1) := by decide +kernel
theorem dX7_event_37 : decode cX7_event 37 = .ok (.iload_n 2, 1) := by decide +kernel
theorem dX7_event_38 : decode cX7_event 38 = .ok (.iload_n 1, 1) := by decide +kernel
theorem dX7_event_39 : decode cX7_event 39 = .ok (.iconst 3, 1) := by decide +kernel
theorem dX7_event_40 : decode cX7_event 40 = .ok (.if_icmp .eq 8, 3) := by decide +kernel
theorem dX7_event_43 : decode cX7_event 43 = .ok (.iload_n 1, 1) := by decide +kernel
theorem dX7_event_44 : decode cX7_event 44 = .ok (.iconst 5, 1) := by decide +kernel
theorem dX7_event_45 : decode cX7_event 45 = .ok (.if_icmp .ne 7, 3) := by decide +kernel
theorem dX7_event_48 : decode cX7_event 48 = .ok (.iload_n 3, 1) := by decide +kernel
theorem dX7_event_49 : decode cX7_event 49 = .ok (.goto 4, 3) := by decide +kernel
theorem dX7_event_52 : decode cX7_event 52 = .ok (.iconst 0, 1) := by decide +kernel
theorem dX7_event_53 : decode cX7_event 53 = .ok (.iload 4, 2) := by decide +kernel
theorem dX7_event_55 : decode cX7_event 55 = .ok (.invokevirtual 143, 3) := by decide +kernel
theorem dX7_event_58 : decode cX7_event 58 = .ok (.aload_n 0, 1) := by decide +kernel
theorem dX7_event_59 : decode cX7_event 59 = .ok (.iconst 0, 1) := by decide +kernel
theorem dX7_event_60 : decode cX7_event 60 = .ok (.putfield 128, 3) := by decide +kernel
theorem dX7_event_63 : decode cX7_event 63 = .ok (.aload_n 0, 1) := by decide +kernel
theorem dX7_event_64 : decode cX7_event 64 = .ok (.getfield 60, 3) := by decide +kernel
theorem dX7_event_67 : decode cX7_event 67 = .ok (.getfield 124, 3) := by decide +kernel
theorem dX7_event_70 : decode cX7_event 70 = .ok (.iconst 1, 1) := by decide +kernel
theorem dX7_event_71 : decode cX7_event 71 = .ok (.isub, 1) := by decide +kernel
theorem dX7_event_72 : decode cX7_event 72 = .ok (.ireturn, 1) := by decide +kernel
theorem dX7_mark_0 : decode cX7_mark 0 = .ok (.aload_n 0, 1) := by decide +kernel
theorem dX7_mark_1 : decode cX7_mark 1 = .ok (.getfield 60, 3) := by decide +kernel
theorem dX7_mark_4 : decode cX7_mark 4 = .ok (.iload_n 1, 1) := by decide +kernel
theorem dX7_mark_5 : decode cX7_mark 5 = .ok (.invokevirtual 147, 3) := by decide +kernel
theorem dX7_mark_8 : decode cX7_mark 8 = .ok (.ifCond .eq 13, 3) := by decide +kernel
theorem dX7_mark_11 : decode cX7_mark 11 = .ok (.iload_n 2, 1) := by decide +kernel
theorem dX7_mark_12 : decode cX7_mark 12 = .ok (.iconst 1, 1) := by decide +kernel
theorem dX7_mark_13 : decode cX7_mark 13 = .ok (.if_icmp .lt 8, 3) := by decide +kernel
theorem dX7_mark_16 : decode cX7_mark 16 = .ok (.iload_n 2, 1) := by decide +kernel
theorem dX7_mark_17 : decode cX7_mark 17 = .ok (.iconst 5, 1) := by decide +kernel
theorem dX7_mark_18 : decode cX7_mark 18 = .ok (.if_icmp .le 5, 3) := by decide +kernel
theorem dX7_mark_21 : decode cX7_mark 21 = .ok (.iconst (-1), 1) := by decide +kernel
theorem dX7_mark_22 : decode cX7_mark 22 = .ok (.ireturn, 1) := by decide +kernel
theorem dX7_mark_23 : decode cX7_mark 23 = .ok (.aload_n 0, 1) := by decide +kernel
theorem dX7_mark_24 : decode cX7_mark 24 = .ok (.getfield 60, 3) := by decide +kernel
theorem dX7_mark_27 : decode cX7_mark 27 = .ok (.iload_n 1, 1) := by decide +kernel
theorem dX7_mark_28 : decode cX7_mark 28 = .ok (.iload_n 2, 1) := by decide +kernel
theorem dX7_mark_29 : decode cX7_mark 29 = .ok (.invokevirtual 152, 3) := by decide +kernel
theorem dX7_mark_32 : decode cX7_mark 32 = .ok (.ifCond .ne 9, 3) := by decide +kernel
theorem dX7_mark_35 : decode cX7_mark 35 = .ok (.aload_n 0, 1) := by decide +kernel
theorem dX7_mark_36 : decode cX7_mark 36 = .ok (.iconst 3, 1) := by decide +kernel
theorem dX7_mark_37 : decode cX7_mark 37 = .ok (.invokevirtual 79, 3) := by decide +kernel
theorem dX7_mark_40 : decode cX7_mark 40 = .ok (.ireturn, 1) := by decide +kernel
theorem dX7_mark_41 : decode cX7_mark 41 = .ok (.iload_n 2, 1) := by decide +kernel
theorem dX7_mark_42 : decode cX7_mark 42 = .ok (.iconst 3, 1) := by decide +kernel
theorem dX7_mark_43 : decode cX7_mark 43 = .ok (.if_icmp .ne 13, 3) := by decide +kernel
theorem dX7_mark_46 : decode cX7_mark 46 = .ok (.aload_n 0, 1) := by decide +kernel
theorem dX7_mark_47 : decode cX7_mark 47 = .ok (.getfield 60, 3) := by decide +kernel
theorem dX7_mark_50 : decode cX7_mark 50 = .ok (.getfield 155, 3) := by decide +kernel
theorem dX7_mark_53 : decode cX7_mark 53 = .ok (.iload_n 1, 1) := by decide +kernel
theorem dX7_mark_54 : decode cX7_mark 54 = .ok (.iaload, 1) := by decide +kernel
theorem dX7_mark_55 : decode cX7_mark 55 = .ok (.ireturn, 1) := by decide +kernel
theorem dX7_mark_56 : decode cX7_mark 56 = .ok (.iload_n 2, 1) := by decide +kernel
theorem dX7_mark_57 : decode cX7_mark 57 = .ok (.iconst 5, 1) := by decide +kernel
theorem dX7_mark_58 : decode cX7_mark 58 = .ok (.if_icmp .ne 25, 3) := by decide +kernel
theorem dX7_mark_61 : decode cX7_mark 61 = .ok (.aload_n 0, 1) := by decide +kernel
theorem dX7_mark_62 : decode cX7_mark 62 = .ok (.getfield 60, 3) := by decide +kernel
theorem dX7_mark_65 : decode cX7_mark 65 = .ok (.getfield 155, 3) := by decide +kernel
theorem dX7_mark_68 : decode cX7_mark 68 = .ok (.iload_n 1, 1) := by decide +kernel
theorem dX7_mark_69 : decode cX7_mark 69 = .ok (.iaload, 1) := by decide +kernel
theorem dX7_mark_70 : decode cX7_mark 70 = .ok (.aload_n 0, 1) := by decide +kernel
theorem dX7_mark_71 : decode cX7_mark 71 = .ok (.getfield 60, 3) := by decide +kernel
theorem dX7_mark_74 : decode cX7_mark 74 = .ok (.getfield 158, 3) := by decide +kernel
theorem dX7_mark_77 : decode cX7_mark 77 = .ok (.iload_n 1, 1) := by decide +kernel
theorem dX7_mark_78 : decode cX7_mark 78 = .ok (.iaload, 1) := by decide +kernel
theorem dX7_mark_79 : decode cX7_mark 79 = .ok (.isub, 1) := by decide +kernel
theorem dX7_mark_80 : decode cX7_mark 80 = .ok (.iconst 1, 1) := by decide +kernel
theorem dX7_mark_81 : decode cX7_mark 81 = .ok (.iadd, 1) := by decide +kernel
theorem dX7_mark_82 : decode cX7_mark 82 = .ok (.ireturn, 1) := by decide +kernel
theorem dX7_mark_83 : decode cX7_mark 83 = .ok (.aload_n 0, 1) := by decide +kernel
theorem dX7_mark_84 : decode cX7_mark 84 = .ok (.getfield 60, 3) := by decide +kernel
theorem dX7_mark_87 : decode cX7_mark 87 = .ok (.getfield 161, 3) := by decide +kernel
theorem dX7_mark_90 : decode cX7_mark 90 = .ok (.iload_n 1, 1) := by decide +kernel
theorem dX7_mark_91 : decode cX7_mark 91 = .ok (.iaload, 1) := by decide +kernel
theorem dX7_mark_92 : decode cX7_mark 92 = .ok (.ireturn, 1) := by decide +kernel
theorem dX7_could_0 : decode cX7_could 0 = .ok (.aload_n 0, 1) := by decide +kernel
theorem dX7_could_1 : decode cX7_could 1 = .ok (.invokevirtual 179, 3) := by decide +kernel
theorem dX7_could_4 : decode cX7_could 4 = .ok (.ifCond .eq 5, 3) := by decide +kernel
theorem dX7_could_7 : decode cX7_could 7 = .ok (.iconst 1, 1) := by decide +kernel
theorem dX7_could_8 : decode cX7_could 8 = .ok (.ireturn, 1) := by decide +kernel
theorem dX7_could_9 : decode cX7_could 9 = .ok (.aload_n 0, 1) := by decide +kernel
theorem dX7_could_10 : decode cX7_could 10 = .ok (.aload_n 0, 1) := by decide +kernel
theorem dX7_could_11 : decode cX7_could 11 = .ok (.getfield 183, 3) := by decide +kernel
theorem dX7_could_14 : decode cX7_could 14 = .ok (.putfield 186, 3) := by decide +kernel
theorem dX7_could_17 : decode cX7_could 17 = .ok (.iconst 0, 1) := by decide +kernel
theorem dX7_could_18 : decode cX7_could 18 = .ok (.ireturn, 1) := by decide +kernel
theorem dX7_fewest_0 : decode cX7_fewest 0 = .ok (.iconst 0, 1) := by decide +kernel
theorem dX7_fewest_1 : decode cX7_fewest 1 = .ok (.istore_n 1, 1) := by decide +kernel
theorem dX7_fewest_2 : decode cX7_fewest 2 = .ok (.iload_n 1, 1) := by decide +kernel
theorem dX7_fewest_3 : decode cX7_fewest 3 = .ok (.aload_n 0, 1) := by decide +kernel
theorem dX7_fewest_4 : decode cX7_fewest 4 = .ok (.getfield 38, 3) := by decide +kernel
theorem dX7_fewest_7 : decode cX7_fewest 7 = .ok (.getfield 189, 3) := by decide +kernel
theorem dX7_fewest_10 : decode cX7_fewest 10 = .ok (.if_icmp .gt 59, 3) := by decide +kernel
theorem dX7_fewest_13 : decode cX7_fewest 13 = .ok (.aload_n 0, 1) := by decide +kernel
theorem dX7_fewest_14 : decode cX7_fewest 14 = .ok (.getfield 54, 3) := by decide +kernel
theorem dX7_fewest_17 : decode cX7_fewest 17 = .ok (.aload_n 0, 1) := by decide +kernel
theorem dX7_fewest_18 : decode cX7_fewest 18 = .ok (.getfield 38, 3) := by decide +kernel
theorem dX7_fewest_21 : decode cX7_fewest 21 = .ok (.iload_n 1, 1) := by decide +kernel
theorem dX7_fewest_22 : decode cX7_fewest 22 = .ok (.aload_n 0, 1) := by decide +kernel
theorem dX7_fewest_23 : decode cX7_fewest 23 = .ok (.getfield 38, 3) := by decide +kernel
theorem dX7_fewest_26 : decode cX7_fewest 26 = .ok (.getfield 192, 3) := by decide +kernel
theorem dX7_fewest_29 : decode cX7_fewest 29 = .ok (.invokevirtual 195, 3) := by decide +kernel
theorem dX7_fewest_32 : decode cX7_fewest 32 = .ok (.aload_n 0, 1) := by decide +kernel
theorem dX7_fewest_33 : decode cX7_fewest 33 = .ok (.getfield 54, 3) := by decide +kernel
theorem dX7_fewest_36 : decode cX7_fewest 36 = .ok (.aload_n 0, 1) := by decide +kernel
theorem dX7_fewest_37 : decode cX7_fewest 37 = .ok (.getfield 60, 3) := by decide +kernel
theorem dX7_fewest_40 : decode cX7_fewest 40 = .ok (.iconst 0, 1) := by decide +kernel
theorem dX7_fewest_41 : decode cX7_fewest 41 = .ok (.invokevirtual 198, 3) := by decide +kernel
theorem dX7_fewest_44 : decode cX7_fewest 44 = .ok (.aload_n 0, 1) := by decide +kernel
theorem dX7_fewest_45 : decode cX7_fewest 45 = .ok (.getfield 31, 3) := by decide +kernel
theorem dX7_fewest_48 : decode cX7_fewest 48 = .ok (.aload_n 0, 1) := by decide +kernel
theorem dX7_fewest_49 : decode cX7_fewest 49 = .ok (.getfield 54, 3) := by decide +kernel
theorem dX7_fewest_52 : decode cX7_fewest 52 = .ok (.iconst 0, 1) := by decide +kernel
theorem dX7_fewest_53 : decode cX7_fewest 53 = .ok (.invokevirtual 201, 3) := by decide +kernel
theorem dX7_fewest_56 : decode cX7_fewest 56 = .ok (.bipush (-9), 2) := by decide +kernel
theorem dX7_fewest_58 : decode cX7_fewest 58 = .ok (.if_icmp .ne 5, 3) := by decide +kernel
theorem dX7_fewest_61 : decode cX7_fewest 61 = .ok (.iload_n 1, 1) := by decide +kernel
theorem dX7_fewest_62 : decode cX7_fewest 62 = .ok (.ireturn, 1) := by decide +kernel
theorem dX7_fewest_63 : decode cX7_fewest 63 = .ok (.iinc 1 1, 3) := by decide +kernel
theorem dX7_fewest_66 : decode cX7_fewest 66 = .ok (.goto (-64), 3) := by decide +kernel
theorem dX7_fewest_69 : decode cX7_fewest 69 = .ok (.bipush (-9), 2) := by decide +kernel
theorem dX7_fewest_71 : decode cX7_fewest 71 = .ok (.ireturn, 1) := by decide +kernel
theorem dX7_ways_0 : decode cX7_ways 0 = .ok (.lconst 0, 1) := by decide +kernel
theorem dX7_ways_1 : decode cX7_ways 1 = .ok (.lstore_n 1, 1) := by decide +kernel
theorem dX7_ways_2 : decode cX7_ways 2 = .ok (.aload_n 0, 1) := by decide +kernel
theorem dX7_ways_3 : decode cX7_ways 3 = .ok (.invokevirtual 205, 3) := by decide +kernel
theorem dX7_ways_6 : decode cX7_ways 6 = .ok (.ifCond .eq 34, 3) := by decide +kernel
theorem dX7_ways_9 : decode cX7_ways 9 = .ok (.aload_n 0, 1) := by decide +kernel
theorem dX7_ways_10 : decode cX7_ways 10 = .ok (.getfield 31, 3) := by decide +kernel
theorem dX7_ways_13 : decode cX7_ways 13 = .ok (.aload_n 0, 1) := by decide +kernel
theorem dX7_ways_14 : decode cX7_ways 14 = .ok (.getfield 50, 3) := by decide +kernel
theorem dX7_ways_17 : decode cX7_ways 17 = .ok (.aload_n 0, 1) := by decide +kernel
theorem dX7_ways_18 : decode cX7_ways 18 = .ok (.getfield 38, 3) := by decide +kernel
theorem dX7_ways_21 : decode cX7_ways 21 = .ok (.getfield 208, 3) := by decide +kernel
theorem dX7_ways_24 : decode cX7_ways 24 = .ok (.invokevirtual 211, 3) := by decide +kernel
theorem dX7_ways_27 : decode cX7_ways 27 = .ok (.aload_n 0, 1) := by decide +kernel
theorem dX7_ways_28 : decode cX7_ways 28 = .ok (.getfield 31, 3) := by decide +kernel
theorem dX7_ways_31 : decode cX7_ways 31 = .ok (.aload_n 0, 1) := by decide +kernel
theorem dX7_ways_32 : decode cX7_ways 32 = .ok (.getfield 50, 3) := by decide +kernel
theorem dX7_ways_35 : decode cX7_ways 35 = .ok (.iconst 0, 1) := by decide +kernel
theorem dX7_ways_36 : decode cX7_ways 36 = .ok (.invokevirtual 215, 3) := by decide +kernel
theorem dX7_ways_39 : decode cX7_ways 39 = .ok (.lstore_n 1, 1) := by decide +kernel
theorem dX7_ways_40 : decode cX7_ways 40 = .ok (.lload_n 1, 1) := by decide +kernel
theorem dX7_ways_41 : decode cX7_ways 41 = .ok (.ldc2_w 219, 3) := by decide +kernel
theorem dX7_ways_44 : decode cX7_ways 44 = .ok (.lcmp, 1) := by decide +kernel
theorem dX7_ways_45 : decode cX7_ways 45 = .ok (.ifCond .le 6, 3) := by decide +kernel
theorem dX7_ways_48 : decode cX7_ways 48 = .ok (.bipush (-6), 2) := by decide +kernel
theorem dX7_ways_50 : decode cX7_ways 50 = .ok (.ireturn, 1) := by decide +kernel
theorem dX7_ways_51 : decode cX7_ways 51 = .ok (.aload_n 0, 1) := by decide +kernel
theorem dX7_ways_52 : decode cX7_ways 52 = .ok (.lload_n 1, 1) := by decide +kernel
theorem dX7_ways_53 : decode cX7_ways 53 = .ok (.putfield 221, 3) := by decide +kernel
theorem dX7_ways_56 : decode cX7_ways 56 = .ok (.lload_n 1, 1) := by decide +kernel
theorem dX7_ways_57 : decode cX7_ways 57 = .ok (.lconst 0, 1) := by decide +kernel
theorem dX7_ways_58 : decode cX7_ways 58 = .ok (.lcmp, 1) := by decide +kernel
theorem dX7_ways_59 : decode cX7_ways 59 = .ok (.ifCond .le 7, 3) := by decide +kernel
theorem dX7_ways_62 : decode cX7_ways 62 = .ok (.iconst 1, 1) := by decide +kernel
theorem dX7_ways_63 : decode cX7_ways 63 = .ok (.goto 4, 3) := by decide +kernel
theorem dX7_ways_66 : decode cX7_ways 66 = .ok (.iconst 0, 1) := by decide +kernel
theorem dX7_ways_67 : decode cX7_ways 67 = .ok (.ireturn, 1) := by decide +kernel
theorem dX7_rooms_0 : decode cX7_rooms 0 = .ok (.aload_n 0, 1) := by decide +kernel
theorem dX7_rooms_1 : decode cX7_rooms 1 = .ok (.getfield 38, 3) := by decide +kernel
theorem dX7_rooms_4 : decode cX7_rooms 4 = .ok (.iload_n 1, 1) := by decide +kernel
theorem dX7_rooms_5 : decode cX7_rooms 5 = .ok (.invokevirtual 224, 3) := by decide +kernel
theorem dX7_rooms_8 : decode cX7_rooms 8 = .ok (.ifCond .eq 14, 3) := by decide +kernel
theorem dX7_rooms_11 : decode cX7_rooms 11 = .ok (.aload_n 0, 1) := by decide +kernel
theorem dX7_rooms_12 : decode cX7_rooms 12 = .ok (.getfield 38, 3) := by decide +kernel
theorem dX7_rooms_15 : decode cX7_rooms 15 = .ok (.iload_n 2, 1) := by decide +kernel
theorem dX7_rooms_16 : decode cX7_rooms 16 = .ok (.invokevirtual 227, 3) := by decide +kernel
theorem dX7_rooms_19 : decode cX7_rooms 19 = .ok (.ifCond .ne 5, 3) := by decide +kernel
theorem dX7_rooms_22 : decode cX7_rooms 22 = .ok (.iconst (-1), 1) := by decide +kernel
theorem dX7_rooms_23 : decode cX7_rooms 23 = .ok (.ireturn, 1) := by decide +kernel
theorem dX7_rooms_24 : decode cX7_rooms 24 = .ok (.aload_n 0, 1) := by decide +kernel
theorem dX7_rooms_25 : decode cX7_rooms 25 = .ok (.invokevirtual 205, 3) := by decide +kernel
theorem dX7_rooms_28 : decode cX7_rooms 28 = .ok (.ifCond .ne 9, 3) := by decide +kernel
theorem dX7_rooms_31 : decode cX7_rooms 31 = .ok (.aload_n 0, 1) := by decide +kernel
theorem dX7_rooms_32 : decode cX7_rooms 32 = .ok (.iconst 4, 1) := by decide +kernel
theorem dX7_rooms_33 : decode cX7_rooms 33 = .ok (.invokevirtual 79, 3) := by decide +kernel
theorem dX7_rooms_36 : decode cX7_rooms 36 = .ok (.ireturn, 1) := by decide +kernel
theorem dX7_rooms_37 : decode cX7_rooms 37 = .ok (.aload_n 0, 1) := by decide +kernel
theorem dX7_rooms_38 : decode cX7_rooms 38 = .ok (.aload_n 0, 1) := by decide +kernel
theorem dX7_rooms_39 : decode cX7_rooms 39 = .ok (.getfield 31, 3) := by decide +kernel
theorem dX7_rooms_42 : decode cX7_rooms 42 = .ok (.aload_n 0, 1) := by decide +kernel
theorem dX7_rooms_43 : decode cX7_rooms 43 = .ok (.getfield 50, 3) := by decide +kernel
theorem dX7_rooms_46 : decode cX7_rooms 46 = .ok (.iload_n 2, 1) := by decide +kernel
theorem dX7_rooms_47 : decode cX7_rooms 47 = .ok (.sipush 4161, 3) := by decide +kernel
theorem dX7_rooms_50 : decode cX7_rooms 50 = .ok (.iload_n 1, 1) := by decide +kernel
theorem dX7_rooms_51 : decode cX7_rooms 51 = .ok (.ishl, 1) := by decide +kernel
theorem dX7_rooms_52 : decode cX7_rooms 52 = .ok (.invokevirtual 230, 3) := by decide +kernel
theorem dX7_rooms_55 : decode cX7_rooms 55 = .ok (.putfield 186, 3) := by decide +kernel
theorem dX7_rooms_58 : decode cX7_rooms 58 = .ok (.aload_n 0, 1) := by decide +kernel
theorem dX7_rooms_59 : decode cX7_rooms 59 = .ok (.getfield 31, 3) := by decide +kernel
theorem dX7_rooms_62 : decode cX7_rooms 62 = .ok (.aload_n 0, 1) := by decide +kernel
theorem dX7_rooms_63 : decode cX7_rooms 63 = .ok (.getfield 50, 3) := by decide +kernel
theorem dX7_rooms_66 : decode cX7_rooms 66 = .ok (.iload_n 2, 1) := by decide +kernel
theorem dX7_rooms_67 : decode cX7_rooms 67 = .ok (.sipush 4161, 3) := by decide +kernel
theorem dX7_rooms_70 : decode cX7_rooms 70 = .ok (.iload_n 1, 1) := by decide +kernel
theorem dX7_rooms_71 : decode cX7_rooms 71 = .ok (.ishl, 1) := by decide +kernel
theorem dX7_rooms_72 : decode cX7_rooms 72 = .ok (.invokevirtual 234, 3) := by decide +kernel
theorem dX7_rooms_75 : decode cX7_rooms 75 = .ok (.ireturn, 1) := by decide +kernel
theorem dX7_empty_0 : decode cX7_empty 0 = .ok (.aload_n 0, 1) := by decide +kernel
theorem dX7_empty_1 : decode cX7_empty 1 = .ok (.getfield 38, 3) := by decide +kernel
theorem dX7_empty_4 : decode cX7_empty 4 = .ok (.iload_n 1, 1) := by decide +kernel
theorem dX7_empty_5 : decode cX7_empty 5 = .ok (.invokevirtual 227, 3) := by decide +kernel
theorem dX7_empty_8 : decode cX7_empty 8 = .ok (.ifCond .ne 5, 3) := by decide +kernel
theorem dX7_empty_11 : decode cX7_empty 11 = .ok (.iconst (-1), 1) := by decide +kernel
theorem dX7_empty_12 : decode cX7_empty 12 = .ok (.ireturn, 1) := by decide +kernel
theorem dX7_empty_13 : decode cX7_empty 13 = .ok (.aload_n 0, 1) := by decide +kernel
theorem dX7_empty_14 : decode cX7_empty 14 = .ok (.invokevirtual 205, 3) := by decide +kernel
theorem dX7_empty_17 : decode cX7_empty 17 = .ok (.ifCond .ne 9, 3) := by decide +kernel
theorem dX7_empty_20 : decode cX7_empty 20 = .ok (.aload_n 0, 1) := by decide +kernel
theorem dX7_empty_21 : decode cX7_empty 21 = .ok (.iconst 4, 1) := by decide +kernel
theorem dX7_empty_22 : decode cX7_empty 22 = .ok (.invokevirtual 79, 3) := by decide +kernel
theorem dX7_empty_25 : decode cX7_empty 25 = .ok (.ireturn, 1) := by decide +kernel
theorem dX7_empty_26 : decode cX7_empty 26 = .ok (.aload_n 0, 1) := by decide +kernel
theorem dX7_empty_27 : decode cX7_empty 27 = .ok (.aload_n 0, 1) := by decide +kernel
theorem dX7_empty_28 : decode cX7_empty 28 = .ok (.getfield 31, 3) := by decide +kernel
theorem dX7_empty_31 : decode cX7_empty 31 = .ok (.aload_n 0, 1) := by decide +kernel
theorem dX7_empty_32 : decode cX7_empty 32 = .ok (.getfield 50, 3) := by decide +kernel
theorem dX7_empty_35 : decode cX7_empty 35 = .ok (.iload_n 1, 1) := by decide +kernel
theorem dX7_empty_36 : decode cX7_empty 36 = .ok (.invokevirtual 237, 3) := by decide +kernel
theorem dX7_empty_39 : decode cX7_empty 39 = .ok (.bipush 18, 2) := by decide +kernel
theorem dX7_empty_41 : decode cX7_empty 41 = .ok (.ishr, 1) := by decide +kernel
theorem dX7_empty_42 : decode cX7_empty 42 = .ok (.putfield 186, 3) := by decide +kernel
theorem dX7_empty_45 : decode cX7_empty 45 = .ok (.aload_n 0, 1) := by decide +kernel
theorem dX7_empty_46 : decode cX7_empty 46 = .ok (.getfield 38, 3) := by decide +kernel
theorem dX7_empty_49 : decode cX7_empty 49 = .ok (.invokevirtual 241, 3) := by decide +kernel
theorem dX7_empty_52 : decode cX7_empty 52 = .ok (.aload_n 0, 1) := by decide +kernel
theorem dX7_empty_53 : decode cX7_empty 53 = .ok (.getfield 31, 3) := by decide +kernel
theorem dX7_empty_56 : decode cX7_empty 56 = .ok (.aload_n 0, 1) := by decide +kernel
theorem dX7_empty_57 : decode cX7_empty 57 = .ok (.getfield 50, 3) := by decide +kernel
theorem dX7_empty_60 : decode cX7_empty 60 = .ok (.iload_n 1, 1) := by decide +kernel
theorem dX7_empty_61 : decode cX7_empty 61 = .ok (.invokevirtual 245, 3) := by decide +kernel
theorem dX7_empty_64 : decode cX7_empty 64 = .ok (.bipush 18, 2) := by decide +kernel
theorem dX7_empty_66 : decode cX7_empty 66 = .ok (.ishr, 1) := by decide +kernel
theorem dX7_empty_67 : decode cX7_empty 67 = .ok (.iconst (-1), 1) := by decide +kernel
theorem dX7_empty_68 : decode cX7_empty 68 = .ok (.ixor, 1) := by decide +kernel
theorem dX7_empty_69 : decode cX7_empty 69 = .ok (.iand, 1) := by decide +kernel
theorem dX7_empty_70 : decode cX7_empty 70 = .ok (.ireturn, 1) := by decide +kernel
theorem dX7_where_0 : decode cX7_where 0 = .ok (.aload_n 0, 1) := by decide +kernel
theorem dX7_where_1 : decode cX7_where 1 = .ok (.getfield 38, 3) := by decide +kernel
theorem dX7_where_4 : decode cX7_where 4 = .ok (.iload_n 1, 1) := by decide +kernel
theorem dX7_where_5 : decode cX7_where 5 = .ok (.invokevirtual 170, 3) := by decide +kernel
theorem dX7_where_8 : decode cX7_where 8 = .ok (.ifCond .eq 14, 3) := by decide +kernel
theorem dX7_where_11 : decode cX7_where 11 = .ok (.aload_n 0, 1) := by decide +kernel
theorem dX7_where_12 : decode cX7_where 12 = .ok (.getfield 38, 3) := by decide +kernel
theorem dX7_where_15 : decode cX7_where 15 = .ok (.iload_n 2, 1) := by decide +kernel
theorem dX7_where_16 : decode cX7_where 16 = .ok (.invokevirtual 227, 3) := by decide +kernel
theorem dX7_where_19 : decode cX7_where 19 = .ok (.ifCond .ne 5, 3) := by decide +kernel
theorem dX7_where_22 : decode cX7_where 22 = .ok (.iconst (-1), 1) := by decide +kernel
theorem dX7_where_23 : decode cX7_where 23 = .ok (.ireturn, 1) := by decide +kernel
theorem dX7_where_24 : decode cX7_where 24 = .ok (.aload_n 0, 1) := by decide +kernel
theorem dX7_where_25 : decode cX7_where 25 = .ok (.invokevirtual 205, 3) := by decide +kernel
theorem dX7_where_28 : decode cX7_where 28 = .ok (.ifCond .ne 9, 3) := by decide +kernel
theorem dX7_where_31 : decode cX7_where 31 = .ok (.aload_n 0, 1) := by decide +kernel
theorem dX7_where_32 : decode cX7_where 32 = .ok (.iconst 4, 1) := by decide +kernel
theorem dX7_where_33 : decode cX7_where 33 = .ok (.invokevirtual 79, 3) := by decide +kernel
theorem dX7_where_36 : decode cX7_where 36 = .ok (.ireturn, 1) := by decide +kernel
theorem dX7_where_37 : decode cX7_where 37 = .ok (.aload_n 0, 1) := by decide +kernel
theorem dX7_where_38 : decode cX7_where 38 = .ok (.getfield 31, 3) := by decide +kernel
theorem dX7_where_41 : decode cX7_where 41 = .ok (.aload_n 0, 1) := by decide +kernel
theorem dX7_where_42 : decode cX7_where 42 = .ok (.getfield 50, 3) := by decide +kernel
theorem dX7_where_45 : decode cX7_where 45 = .ok (.iload_n 2, 1) := by decide +kernel
theorem dX7_where_46 : decode cX7_where 46 = .ok (.invokevirtual 245, 3) := by decide +kernel
theorem dX7_where_49 : decode cX7_where 49 = .ok (.iload_n 1, 1) := by decide +kernel
theorem dX7_where_50 : decode cX7_where 50 = .ok (.invokestatic 248, 3) := by decide +kernel
theorem dX7_where_53 : decode cX7_where 53 = .ok (.ireturn, 1) := by decide +kernel
theorem dX7_met_0 : decode cX7_met 0 = .ok (.aload_n 0, 1) := by decide +kernel
theorem dX7_met_1 : decode cX7_met 1 = .ok (.getfield 38, 3) := by decide +kernel
theorem dX7_met_4 : decode cX7_met 4 = .ok (.iload_n 1, 1) := by decide +kernel
theorem dX7_met_5 : decode cX7_met 5 = .ok (.invokevirtual 170, 3) := by decide +kernel
theorem dX7_met_8 : decode cX7_met 8 = .ok (.ifCond .eq 19, 3) := by decide +kernel
theorem dX7_met_11 : decode cX7_met 11 = .ok (.aload_n 0, 1) := by decide +kernel
theorem dX7_met_12 : decode cX7_met 12 = .ok (.getfield 38, 3) := by decide +kernel
theorem dX7_met_15 : decode cX7_met 15 = .ok (.iload_n 2, 1) := by decide +kernel
theorem dX7_met_16 : decode cX7_met 16 = .ok (.invokevirtual 170, 3) := by decide +kernel
theorem dX7_met_19 : decode cX7_met 19 = .ok (.ifCond .eq 8, 3) := by decide +kernel
theorem dX7_met_22 : decode cX7_met 22 = .ok (.iload_n 1, 1) := by decide +kernel
theorem dX7_met_23 : decode cX7_met 23 = .ok (.iload_n 2, 1) := by decide +kernel
theorem dX7_met_24 : decode cX7_met 24 = .ok (.if_icmp .ne 5, 3) := by decide +kernel
theorem dX7_met_27 : decode cX7_met 27 = .ok (.iconst (-1), 1) := by decide +kernel
theorem dX7_met_28 : decode cX7_met 28 = .ok (.ireturn, 1) := by decide +kernel
theorem dX7_met_29 : decode cX7_met 29 = .ok (.aload_n 0, 1) := by decide +kernel
theorem dX7_met_30 : decode cX7_met 30 = .ok (.invokevirtual 205, 3) := by decide +kernel
theorem dX7_met_33 : decode cX7_met 33 = .ok (.ifCond .ne 9, 3) := by decide +kernel
theorem dX7_met_36 : decode cX7_met 36 = .ok (.aload_n 0, 1) := by decide +kernel
theorem dX7_met_37 : decode cX7_met 37 = .ok (.iconst 4, 1) := by decide +kernel
theorem dX7_met_38 : decode cX7_met 38 = .ok (.invokevirtual 79, 3) := by decide +kernel
theorem dX7_met_41 : decode cX7_met 41 = .ok (.ireturn, 1) := by decide +kernel
theorem dX7_met_42 : decode cX7_met 42 = .ok (.aload_n 0, 1) := by decide +kernel
theorem dX7_met_43 : decode cX7_met 43 = .ok (.aload_n 0, 1) := by decide +kernel
theorem dX7_met_44 : decode cX7_met 44 = .ok (.getfield 31, 3) := by decide +kernel
theorem dX7_met_47 : decode cX7_met 47 = .ok (.aload_n 0, 1) := by decide +kernel
theorem dX7_met_48 : decode cX7_met 48 = .ok (.getfield 50, 3) := by decide +kernel
theorem dX7_met_51 : decode cX7_met 51 = .ok (.iload_n 1, 1) := by decide +kernel
theorem dX7_met_52 : decode cX7_met 52 = .ok (.iload_n 2, 1) := by decide +kernel
theorem dX7_met_53 : decode cX7_met 53 = .ok (.invokevirtual 251, 3) := by decide +kernel
theorem dX7_met_56 : decode cX7_met 56 = .ok (.putfield 186, 3) := by decide +kernel
theorem dX7_met_59 : decode cX7_met 59 = .ok (.aload_n 0, 1) := by decide +kernel
theorem dX7_met_60 : decode cX7_met 60 = .ok (.getfield 186, 3) := by decide +kernel
theorem dX7_met_63 : decode cX7_met 63 = .ok (.bipush (-9), 2) := by decide +kernel
theorem dX7_met_65 : decode cX7_met 65 = .ok (.if_icmp .ne 5, 3) := by decide +kernel
theorem dX7_met_68 : decode cX7_met 68 = .ok (.iconst 0, 1) := by decide +kernel
theorem dX7_met_69 : decode cX7_met 69 = .ok (.ireturn, 1) := by decide +kernel
theorem dX7_met_70 : decode cX7_met 70 = .ok (.aload_n 0, 1) := by decide +kernel
theorem dX7_met_71 : decode cX7_met 71 = .ok (.getfield 31, 3) := by decide +kernel
theorem dX7_met_74 : decode cX7_met 74 = .ok (.aload_n 0, 1) := by decide +kernel
theorem dX7_met_75 : decode cX7_met 75 = .ok (.getfield 50, 3) := by decide +kernel
theorem dX7_met_78 : decode cX7_met 78 = .ok (.iload_n 1, 1) := by decide +kernel
theorem dX7_met_79 : decode cX7_met 79 = .ok (.iload_n 2, 1) := by decide +kernel
theorem dX7_met_80 : decode cX7_met 80 = .ok (.invokevirtual 254, 3) := by decide +kernel
theorem dX7_met_83 : decode cX7_met 83 = .ok (.ifCond .eq 7, 3) := by decide +kernel
theorem dX7_met_86 : decode cX7_met 86 = .ok (.iconst 1, 1) := by decide +kernel
theorem dX7_met_87 : decode cX7_met 87 = .ok (.goto 4, 3) := by decide +kernel
theorem dX7_met_90 : decode cX7_met 90 = .ok (.iconst 2, 1) := by decide +kernel
theorem dX7_met_91 : decode cX7_met 91 = .ok (.ireturn, 1) := by decide +kernel
theorem dX7_still_0 : decode cX7_still 0 = .ok (.aload_n 0, 1) := by decide +kernel
theorem dX7_still_1 : decode cX7_still 1 = .ok (.getfield 38, 3) := by decide +kernel
theorem dX7_still_4 : decode cX7_still 4 = .ok (.iload_n 1, 1) := by decide +kernel
theorem dX7_still_5 : decode cX7_still 5 = .ok (.invokevirtual 170, 3) := by decide +kernel
theorem dX7_still_8 : decode cX7_still 8 = .ok (.ifCond .eq 14, 3) := by decide +kernel
theorem dX7_still_11 : decode cX7_still 11 = .ok (.iload_n 2, 1) := by decide +kernel
theorem dX7_still_12 : decode cX7_still 12 = .ok (.iconst 1, 1) := by decide +kernel
theorem dX7_still_13 : decode cX7_still 13 = .ok (.if_icmp .lt 9, 3) := by decide +kernel
theorem dX7_still_16 : decode cX7_still 16 = .ok (.iload_n 2, 1) := by decide +kernel
theorem dX7_still_17 : decode cX7_still 17 = .ok (.bipush 30, 2) := by decide +kernel
theorem dX7_still_19 : decode cX7_still 19 = .ok (.if_icmp .le 5, 3) := by decide +kernel
theorem dX7_still_22 : decode cX7_still 22 = .ok (.iconst (-1), 1) := by decide +kernel
theorem dX7_still_23 : decode cX7_still 23 = .ok (.ireturn, 1) := by decide +kernel
theorem dX7_still_24 : decode cX7_still 24 = .ok (.aload_n 0, 1) := by decide +kernel
theorem dX7_still_25 : decode cX7_still 25 = .ok (.invokevirtual 205, 3) := by decide +kernel
theorem dX7_still_28 : decode cX7_still 28 = .ok (.ifCond .ne 9, 3) := by decide +kernel
theorem dX7_still_31 : decode cX7_still 31 = .ok (.aload_n 0, 1) := by decide +kernel
theorem dX7_still_32 : decode cX7_still 32 = .ok (.iconst 4, 1) := by decide +kernel
theorem dX7_still_33 : decode cX7_still 33 = .ok (.invokevirtual 79, 3) := by decide +kernel
theorem dX7_still_36 : decode cX7_still 36 = .ok (.ireturn, 1) := by decide +kernel
theorem dX7_still_37 : decode cX7_still 37 = .ok (.aload_n 0, 1) := by decide +kernel
theorem dX7_still_38 : decode cX7_still 38 = .ok (.getfield 31, 3) := by decide +kernel
theorem dX7_still_41 : decode cX7_still 41 = .ok (.aload_n 0, 1) := by decide +kernel
theorem dX7_still_42 : decode cX7_still 42 = .ok (.getfield 50, 3) := by decide +kernel
theorem dX7_still_45 : decode cX7_still 45 = .ok (.iload_n 1, 1) := by decide +kernel
theorem dX7_still_46 : decode cX7_still 46 = .ok (.iload_n 2, 1) := by decide +kernel
theorem dX7_still_47 : decode cX7_still 47 = .ok (.invokevirtual 258, 3) := by decide +kernel
theorem dX7_still_50 : decode cX7_still 50 = .ok (.lstore_n 3, 1) := by decide +kernel
theorem dX7_still_51 : decode cX7_still 51 = .ok (.lconst 1, 1) := by decide +kernel
theorem dX7_still_52 : decode cX7_still 52 = .ok (.iload_n 2, 1) := by decide +kernel
theorem dX7_still_53 : decode cX7_still 53 = .ok (.lshl, 1) := by decide +kernel
theorem dX7_still_54 : decode cX7_still 54 = .ok (.lstore 5, 2) := by decide +kernel
theorem dX7_still_56 : decode cX7_still 56 = .ok (.lload_n 3, 1) := by decide +kernel
theorem dX7_still_57 : decode cX7_still 57 = .ok (.lload 5, 2) := by decide +kernel
theorem dX7_still_59 : decode cX7_still 59 = .ok (.land, 1) := by decide +kernel
theorem dX7_still_60 : decode cX7_still 60 = .ok (.lconst 0, 1) := by decide +kernel
theorem dX7_still_61 : decode cX7_still 61 = .ok (.lcmp, 1) := by decide +kernel
theorem dX7_still_62 : decode cX7_still 62 = .ok (.ifCond .ne 5, 3) := by decide +kernel
theorem dX7_still_65 : decode cX7_still 65 = .ok (.iconst 0, 1) := by decide +kernel
theorem dX7_still_66 : decode cX7_still 66 = .ok (.ireturn, 1) := by decide +kernel
theorem dX7_still_67 : decode cX7_still 67 = .ok (.lload_n 3, 1) := by decide +kernel
theorem dX7_still_68 : decode cX7_still 68 = .ok (.lload 5, 2) := by decide +kernel
theorem dX7_still_70 : decode cX7_still 70 = .ok (.lcmp, 1) := by decide +kernel
theorem dX7_still_71 : decode cX7_still 71 = .ok (.ifCond .ne 7, 3) := by decide +kernel
theorem dX7_still_74 : decode cX7_still 74 = .ok (.iconst 2, 1) := by decide +kernel
theorem dX7_still_75 : decode cX7_still 75 = .ok (.goto 4, 3) := by decide +kernel
theorem dX7_still_78 : decode cX7_still 78 = .ok (.iconst 1, 1) := by decide +kernel
theorem dX7_still_79 : decode cX7_still 79 = .ok (.ireturn, 1) := by decide +kernel
theorem dX7_whose_0 : decode cX7_whose 0 = .ok (.aload_n 0, 1) := by decide +kernel
theorem dX7_whose_1 : decode cX7_whose 1 = .ok (.getfield 60, 3) := by decide +kernel
theorem dX7_whose_4 : decode cX7_whose 4 = .ok (.iload_n 1, 1) := by decide +kernel
theorem dX7_whose_5 : decode cX7_whose 5 = .ok (.invokevirtual 147, 3) := by decide +kernel
theorem dX7_whose_8 : decode cX7_whose 8 = .ok (.ifCond .ne 5, 3) := by decide +kernel
theorem dX7_whose_11 : decode cX7_whose 11 = .ok (.iconst (-1), 1) := by decide +kernel
theorem dX7_whose_12 : decode cX7_whose 12 = .ok (.ireturn, 1) := by decide +kernel
theorem dX7_whose_13 : decode cX7_whose 13 = .ok (.aload_n 0, 1) := by decide +kernel
theorem dX7_whose_14 : decode cX7_whose 14 = .ok (.getfield 60, 3) := by decide +kernel
theorem dX7_whose_17 : decode cX7_whose 17 = .ok (.iload_n 1, 1) := by decide +kernel
theorem dX7_whose_18 : decode cX7_whose 18 = .ok (.iconst 1, 1) := by decide +kernel
theorem dX7_whose_19 : decode cX7_whose 19 = .ok (.invokevirtual 152, 3) := by decide +kernel
theorem dX7_whose_22 : decode cX7_whose 22 = .ok (.ifCond .ne 9, 3) := by decide +kernel
theorem dX7_whose_25 : decode cX7_whose 25 = .ok (.aload_n 0, 1) := by decide +kernel
theorem dX7_whose_26 : decode cX7_whose 26 = .ok (.iconst 3, 1) := by decide +kernel
theorem dX7_whose_27 : decode cX7_whose 27 = .ok (.invokevirtual 79, 3) := by decide +kernel
theorem dX7_whose_30 : decode cX7_whose 30 = .ok (.ireturn, 1) := by decide +kernel
theorem dX7_whose_31 : decode cX7_whose 31 = .ok (.aload_n 0, 1) := by decide +kernel
theorem dX7_whose_32 : decode cX7_whose 32 = .ok (.invokevirtual 205, 3) := by decide +kernel
theorem dX7_whose_35 : decode cX7_whose 35 = .ok (.ifCond .ne 9, 3) := by decide +kernel
theorem dX7_whose_38 : decode cX7_whose 38 = .ok (.aload_n 0, 1) := by decide +kernel
theorem dX7_whose_39 : decode cX7_whose 39 = .ok (.iconst 4, 1) := by decide +kernel
theorem dX7_whose_40 : decode cX7_whose 40 = .ok (.invokevirtual 79, 3) := by decide +kernel
theorem dX7_whose_43 : decode cX7_whose 43 = .ok (.ireturn, 1) := by decide +kernel
theorem dX7_whose_44 : decode cX7_whose 44 = .ok (.aload_n 0, 1) := by decide +kernel
theorem dX7_whose_45 : decode cX7_whose 45 = .ok (.getfield 60, 3) := by decide +kernel
theorem dX7_whose_48 : decode cX7_whose 48 = .ok (.getfield 161, 3) := by decide +kernel
theorem dX7_whose_51 : decode cX7_whose 51 = .ok (.iload_n 1, 1) := by decide +kernel
theorem dX7_whose_52 : decode cX7_whose 52 = .ok (.iaload, 1) := by decide +kernel
theorem dX7_whose_53 : decode cX7_whose 53 = .ok (.istore_n 2, 1) := by decide +kernel
theorem dX7_whose_54 : decode cX7_whose 54 = .ok (.aload_n 0, 1) := by decide +kernel
theorem dX7_whose_55 : decode cX7_whose 55 = .ok (.getfield 60, 3) := by decide +kernel
theorem dX7_whose_58 : decode cX7_whose 58 = .ok (.getfield 158, 3) := by decide +kernel
theorem dX7_whose_61 : decode cX7_whose 61 = .ok (.iload_n 1, 1) := by decide +kernel
theorem dX7_whose_62 : decode cX7_whose 62 = .ok (.iaload, 1) := by decide +kernel
theorem dX7_whose_63 : decode cX7_whose 63 = .ok (.istore_n 3, 1) := by decide +kernel
theorem dX7_whose_64 : decode cX7_whose 64 = .ok (.aload_n 0, 1) := by decide +kernel
theorem dX7_whose_65 : decode cX7_whose 65 = .ok (.aload_n 0, 1) := by decide +kernel
theorem dX7_whose_66 : decode cX7_whose 66 = .ok (.getfield 31, 3) := by decide +kernel
theorem dX7_whose_69 : decode cX7_whose 69 = .ok (.aload_n 0, 1) := by decide +kernel
theorem dX7_whose_70 : decode cX7_whose 70 = .ok (.getfield 31, 3) := by decide +kernel
theorem dX7_whose_73 : decode cX7_whose 73 = .ok (.getfield 270, 3) := by decide +kernel
theorem dX7_whose_76 : decode cX7_whose 76 = .ok (.iload_n 2, 1) := by decide +kernel
theorem dX7_whose_77 : decode cX7_whose 77 = .ok (.iload_n 3, 1) := by decide +kernel
theorem dX7_whose_78 : decode cX7_whose 78 = .ok (.invokevirtual 273, 3) := by decide +kernel
theorem dX7_whose_81 : decode cX7_whose 81 = .ok (.putfield 186, 3) := by decide +kernel
theorem dX7_whose_84 : decode cX7_whose 84 = .ok (.aload_n 0, 1) := by decide +kernel
theorem dX7_whose_85 : decode cX7_whose 85 = .ok (.getfield 31, 3) := by decide +kernel
theorem dX7_whose_88 : decode cX7_whose 88 = .ok (.aload_n 0, 1) := by decide +kernel
theorem dX7_whose_89 : decode cX7_whose 89 = .ok (.getfield 31, 3) := by decide +kernel
theorem dX7_whose_92 : decode cX7_whose 92 = .ok (.getfield 277, 3) := by decide +kernel
theorem dX7_whose_95 : decode cX7_whose 95 = .ok (.iload_n 2, 1) := by decide +kernel
theorem dX7_whose_96 : decode cX7_whose 96 = .ok (.iload_n 3, 1) := by decide +kernel
theorem dX7_whose_97 : decode cX7_whose 97 = .ok (.invokevirtual 273, 3) := by decide +kernel
theorem dX7_whose_100 : decode cX7_whose 100 = .ok (.ireturn, 1) := by decide +kernel
theorem dX7_same_0 : decode cX7_same 0 = .ok (.aload_n 0, 1) := by decide +kernel
theorem dX7_same_1 : decode cX7_same 1 = .ok (.getfield 60, 3) := by decide +kernel
theorem dX7_same_4 : decode cX7_same 4 = .ok (.iload_n 1, 1) := by decide +kernel
theorem dX7_same_5 : decode cX7_same 5 = .ok (.invokevirtual 147, 3) := by decide +kernel
theorem dX7_same_8 : decode cX7_same 8 = .ok (.ifCond .ne 5, 3) := by decide +kernel
theorem dX7_same_11 : decode cX7_same 11 = .ok (.iconst (-1), 1) := by decide +kernel
theorem dX7_same_12 : decode cX7_same 12 = .ok (.ireturn, 1) := by decide +kernel
theorem dX7_same_13 : decode cX7_same 13 = .ok (.aload_n 0, 1) := by decide +kernel
theorem dX7_same_14 : decode cX7_same 14 = .ok (.getfield 60, 3) := by decide +kernel
theorem dX7_same_17 : decode cX7_same 17 = .ok (.iload_n 1, 1) := by decide +kernel
theorem dX7_same_18 : decode cX7_same 18 = .ok (.iconst 2, 1) := by decide +kernel
theorem dX7_same_19 : decode cX7_same 19 = .ok (.invokevirtual 152, 3) := by decide +kernel
theorem dX7_same_22 : decode cX7_same 22 = .ok (.ifCond .ne 9, 3) := by decide +kernel
theorem dX7_same_25 : decode cX7_same 25 = .ok (.aload_n 0, 1) := by decide +kernel
theorem dX7_same_26 : decode cX7_same 26 = .ok (.iconst 3, 1) := by decide +kernel
theorem dX7_same_27 : decode cX7_same 27 = .ok (.invokevirtual 79, 3) := by decide +kernel
theorem dX7_same_30 : decode cX7_same 30 = .ok (.ireturn, 1) := by decide +kernel
theorem dX7_same_31 : decode cX7_same 31 = .ok (.aload_n 0, 1) := by decide +kernel
theorem dX7_same_32 : decode cX7_same 32 = .ok (.invokevirtual 205, 3) := by decide +kernel
theorem dX7_same_35 : decode cX7_same 35 = .ok (.ifCond .ne 9, 3) := by decide +kernel
theorem dX7_same_38 : decode cX7_same 38 = .ok (.aload_n 0, 1) := by decide +kernel
theorem dX7_same_39 : decode cX7_same 39 = .ok (.iconst 4, 1) := by decide +kernel
theorem dX7_same_40 : decode cX7_same 40 = .ok (.invokevirtual 79, 3) := by decide +kernel
theorem dX7_same_43 : decode cX7_same 43 = .ok (.ireturn, 1) := by decide +kernel
theorem dX7_same_44 : decode cX7_same 44 = .ok (.aload_n 0, 1) := by decide +kernel
theorem dX7_same_45 : decode cX7_same 45 = .ok (.getfield 60, 3) := by decide +kernel
theorem dX7_same_48 : decode cX7_same 48 = .ok (.getfield 161, 3) := by decide +kernel
theorem dX7_same_51 : decode cX7_same 51 = .ok (.iload_n 1, 1) := by decide +kernel
theorem dX7_same_52 : decode cX7_same 52 = .ok (.iaload, 1) := by decide +kernel
theorem dX7_same_53 : decode cX7_same 53 = .ok (.istore_n 2, 1) := by decide +kernel
theorem dX7_same_54 : decode cX7_same 54 = .ok (.aload_n 0, 1) := by decide +kernel
theorem dX7_same_55 : decode cX7_same 55 = .ok (.getfield 60, 3) := by decide +kernel
theorem dX7_same_58 : decode cX7_same 58 = .ok (.getfield 158, 3) := by decide +kernel
theorem dX7_same_61 : decode cX7_same 61 = .ok (.iload_n 1, 1) := by decide +kernel
theorem dX7_same_62 : decode cX7_same 62 = .ok (.iaload, 1) := by decide +kernel
theorem dX7_same_63 : decode cX7_same 63 = .ok (.istore_n 3, 1) := by decide +kernel
theorem dX7_same_64 : decode cX7_same 64 = .ok (.aload_n 0, 1) := by decide +kernel
theorem dX7_same_65 : decode cX7_same 65 = .ok (.aload_n 0, 1) := by decide +kernel
theorem dX7_same_66 : decode cX7_same 66 = .ok (.getfield 31, 3) := by decide +kernel
theorem dX7_same_69 : decode cX7_same 69 = .ok (.aload_n 0, 1) := by decide +kernel
theorem dX7_same_70 : decode cX7_same 70 = .ok (.getfield 50, 3) := by decide +kernel
theorem dX7_same_73 : decode cX7_same 73 = .ok (.iload_n 3, 1) := by decide +kernel
theorem dX7_same_74 : decode cX7_same 74 = .ok (.invokevirtual 237, 3) := by decide +kernel
theorem dX7_same_77 : decode cX7_same 77 = .ok (.iload_n 2, 1) := by decide +kernel
theorem dX7_same_78 : decode cX7_same 78 = .ok (.invokestatic 280, 3) := by decide +kernel
theorem dX7_same_81 : decode cX7_same 81 = .ok (.putfield 186, 3) := by decide +kernel
theorem dX7_same_84 : decode cX7_same 84 = .ok (.aload_n 0, 1) := by decide +kernel
theorem dX7_same_85 : decode cX7_same 85 = .ok (.getfield 31, 3) := by decide +kernel
theorem dX7_same_88 : decode cX7_same 88 = .ok (.aload_n 0, 1) := by decide +kernel
theorem dX7_same_89 : decode cX7_same 89 = .ok (.getfield 50, 3) := by decide +kernel
theorem dX7_same_92 : decode cX7_same 92 = .ok (.iload_n 3, 1) := by decide +kernel
theorem dX7_same_93 : decode cX7_same 93 = .ok (.invokevirtual 245, 3) := by decide +kernel
theorem dX7_same_96 : decode cX7_same 96 = .ok (.iload_n 2, 1) := by decide +kernel
theorem dX7_same_97 : decode cX7_same 97 = .ok (.invokestatic 280, 3) := by decide +kernel
theorem dX7_same_100 : decode cX7_same 100 = .ok (.ireturn, 1) := by decide +kernel
theorem dX7_passes_0 : decode cX7_passes 0 = .ok (.aload_n 0, 1) := by decide +kernel
theorem dX7_passes_1 : decode cX7_passes 1 = .ok (.getfield 38, 3) := by decide +kernel
theorem dX7_passes_4 : decode cX7_passes 4 = .ok (.iload_n 1, 1) := by decide +kernel
theorem dX7_passes_5 : decode cX7_passes 5 = .ok (.invokevirtual 164, 3) := by decide +kernel
theorem dX7_passes_8 : decode cX7_passes 8 = .ok (.ifCond .ne 5, 3) := by decide +kernel
theorem dX7_passes_11 : decode cX7_passes 11 = .ok (.iconst (-1), 1) := by decide +kernel
theorem dX7_passes_12 : decode cX7_passes 12 = .ok (.ireturn, 1) := by decide +kernel
theorem dX7_passes_13 : decode cX7_passes 13 = .ok (.aload_n 0, 1) := by decide +kernel
theorem dX7_passes_14 : decode cX7_passes 14 = .ok (.invokevirtual 205, 3) := by decide +kernel
theorem dX7_passes_17 : decode cX7_passes 17 = .ok (.ifCond .ne 9, 3) := by decide +kernel
theorem dX7_passes_20 : decode cX7_passes 20 = .ok (.aload_n 0, 1) := by decide +kernel
theorem dX7_passes_21 : decode cX7_passes 21 = .ok (.iconst 4, 1) := by decide +kernel
theorem dX7_passes_22 : decode cX7_passes 22 = .ok (.invokevirtual 79, 3) := by decide +kernel
theorem dX7_passes_25 : decode cX7_passes 25 = .ok (.ireturn, 1) := by decide +kernel
theorem dX7_passes_26 : decode cX7_passes 26 = .ok (.aload_n 0, 1) := by decide +kernel
theorem dX7_passes_27 : decode cX7_passes 27 = .ok (.aload_n 0, 1) := by decide +kernel
theorem dX7_passes_28 : decode cX7_passes 28 = .ok (.getfield 31, 3) := by decide +kernel
theorem dX7_passes_31 : decode cX7_passes 31 = .ok (.aload_n 0, 1) := by decide +kernel
theorem dX7_passes_32 : decode cX7_passes 32 = .ok (.getfield 31, 3) := by decide +kernel
theorem dX7_passes_35 : decode cX7_passes 35 = .ok (.getfield 283, 3) := by decide +kernel
theorem dX7_passes_38 : decode cX7_passes 38 = .ok (.iload_n 1, 1) := by decide +kernel
theorem dX7_passes_39 : decode cX7_passes 39 = .ok (.aload_n 0, 1) := by decide +kernel
theorem dX7_passes_40 : decode cX7_passes 40 = .ok (.getfield 38, 3) := by decide +kernel
theorem dX7_passes_43 : decode cX7_passes 43 = .ok (.getfield 208, 3) := by decide +kernel
theorem dX7_passes_46 : decode cX7_passes 46 = .ok (.invokevirtual 286, 3) := by decide +kernel
theorem dX7_passes_49 : decode cX7_passes 49 = .ok (.putfield 186, 3) := by decide +kernel
theorem dX7_passes_52 : decode cX7_passes 52 = .ok (.aload_n 0, 1) := by decide +kernel
theorem dX7_passes_53 : decode cX7_passes 53 = .ok (.getfield 31, 3) := by decide +kernel
theorem dX7_passes_56 : decode cX7_passes 56 = .ok (.aload_n 0, 1) := by decide +kernel
theorem dX7_passes_57 : decode cX7_passes 57 = .ok (.getfield 31, 3) := by decide +kernel
theorem dX7_passes_60 : decode cX7_passes 60 = .ok (.getfield 289, 3) := by decide +kernel
theorem dX7_passes_63 : decode cX7_passes 63 = .ok (.iload_n 1, 1) := by decide +kernel
theorem dX7_passes_64 : decode cX7_passes 64 = .ok (.aload_n 0, 1) := by decide +kernel
theorem dX7_passes_65 : decode cX7_passes 65 = .ok (.getfield 38, 3) := by decide +kernel
theorem dX7_passes_68 : decode cX7_passes 68 = .ok (.getfield 208, 3) := by decide +kernel
theorem dX7_passes_71 : decode cX7_passes 71 = .ok (.invokevirtual 286, 3) := by decide +kernel
theorem dX7_passes_74 : decode cX7_passes 74 = .ok (.ireturn, 1) := by decide +kernel
theorem dX7_third_0 : decode cX7_third 0 = .ok (.aload_n 0, 1) := by decide +kernel
theorem dX7_third_1 : decode cX7_third 1 = .ok (.invokevirtual 205, 3) := by decide +kernel
theorem dX7_third_4 : decode cX7_third 4 = .ok (.ifCond .ne 9, 3) := by decide +kernel
theorem dX7_third_7 : decode cX7_third 7 = .ok (.aload_n 0, 1) := by decide +kernel
theorem dX7_third_8 : decode cX7_third 8 = .ok (.iconst 4, 1) := by decide +kernel
theorem dX7_third_9 : decode cX7_third 9 = .ok (.invokevirtual 79, 3) := by decide +kernel
theorem dX7_third_12 : decode cX7_third 12 = .ok (.ireturn, 1) := by decide +kernel
theorem dX7_third_13 : decode cX7_third 13 = .ok (.bipush (-9), 2) := by decide +kernel
theorem dX7_third_15 : decode cX7_third 15 = .ok (.istore_n 1, 1) := by decide +kernel
theorem dX7_third_16 : decode cX7_third 16 = .ok (.iconst (-1), 1) := by decide +kernel
theorem dX7_third_17 : decode cX7_third 17 = .ok (.istore_n 2, 1) := by decide +kernel
theorem dX7_third_18 : decode cX7_third 18 = .ok (.iconst 0, 1) := by decide +kernel
theorem dX7_third_19 : decode cX7_third 19 = .ok (.istore_n 3, 1) := by decide +kernel
theorem dX7_third_20 : decode cX7_third 20 = .ok (.iload_n 3, 1) := by decide +kernel
theorem dX7_third_21 : decode cX7_third 21 = .ok (.aload_n 0, 1) := by decide +kernel
theorem dX7_third_22 : decode cX7_third 22 = .ok (.getfield 38, 3) := by decide +kernel
theorem dX7_third_25 : decode cX7_third 25 = .ok (.getfield 132, 3) := by decide +kernel
theorem dX7_third_28 : decode cX7_third 28 = .ok (.if_icmp .ge 78, 3) := by decide +kernel
theorem dX7_third_31 : decode cX7_third 31 = .ok (.aload_n 0, 1) := by decide +kernel
theorem dX7_third_32 : decode cX7_third 32 = .ok (.getfield 31, 3) := by decide +kernel
theorem dX7_third_35 : decode cX7_third 35 = .ok (.aload_n 0, 1) := by decide +kernel
theorem dX7_third_36 : decode cX7_third 36 = .ok (.getfield 31, 3) := by decide +kernel
theorem dX7_third_39 : decode cX7_third 39 = .ok (.getfield 289, 3) := by decide +kernel
theorem dX7_third_42 : decode cX7_third 42 = .ok (.iload_n 3, 1) := by decide +kernel
theorem dX7_third_43 : decode cX7_third 43 = .ok (.aload_n 0, 1) := by decide +kernel
theorem dX7_third_44 : decode cX7_third 44 = .ok (.getfield 38, 3) := by decide +kernel
theorem dX7_third_47 : decode cX7_third 47 = .ok (.getfield 208, 3) := by decide +kernel
theorem dX7_third_50 : decode cX7_third 50 = .ok (.invokevirtual 286, 3) := by decide +kernel
theorem dX7_third_53 : decode cX7_third 53 = .ok (.aload_n 0, 1) := by decide +kernel
theorem dX7_third_54 : decode cX7_third 54 = .ok (.getfield 31, 3) := by decide +kernel
theorem dX7_third_57 : decode cX7_third 57 = .ok (.aload_n 0, 1) := by decide +kernel
theorem dX7_third_58 : decode cX7_third 58 = .ok (.getfield 31, 3) := by decide +kernel
theorem dX7_third_61 : decode cX7_third 61 = .ok (.getfield 283, 3) := by decide +kernel
theorem dX7_third_64 : decode cX7_third 64 = .ok (.iload_n 3, 1) := by decide +kernel
theorem dX7_third_65 : decode cX7_third 65 = .ok (.aload_n 0, 1) := by decide +kernel
theorem dX7_third_66 : decode cX7_third 66 = .ok (.getfield 38, 3) := by decide +kernel
theorem dX7_third_69 : decode cX7_third 69 = .ok (.getfield 208, 3) := by decide +kernel
theorem dX7_third_72 : decode cX7_third 72 = .ok (.invokevirtual 286, 3) := by decide +kernel
theorem dX7_third_75 : decode cX7_third 75 = .ok (.isub, 1) := by decide +kernel
theorem dX7_third_76 : decode cX7_third 76 = .ok (.istore 4, 2) := by decide +kernel
theorem dX7_third_78 : decode cX7_third 78 = .ok (.aload_n 0, 1) := by decide +kernel
theorem dX7_third_79 : decode cX7_third 79 = .ok (.getfield 38, 3) := by decide +kernel
theorem dX7_third_82 : decode cX7_third 82 = .ok (.iload_n 3, 1) := by decide +kernel
theorem dX7_third_83 : decode cX7_third 83 = .ok (.invokevirtual 292, 3) := by decide +kernel
theorem dX7_third_86 : decode cX7_third 86 = .ok (.ifCond .ne 14, 3) := by decide +kernel
theorem dX7_third_89 : decode cX7_third 89 = .ok (.iload 4, 2) := by decide +kernel
theorem dX7_third_91 : decode cX7_third 91 = .ok (.iload_n 2, 1) := by decide +kernel
theorem dX7_third_92 : decode cX7_third 92 = .ok (.if_icmp .le 8, 3) := by decide +kernel
theorem dX7_third_95 : decode cX7_third 95 = .ok (.iload_n 3, 1) := by decide +kernel
theorem dX7_third_96 : decode cX7_third 96 = .ok (.istore_n 1, 1) := by decide +kernel
theorem dX7_third_97 : decode cX7_third 97 = .ok (.iload 4, 2) := by decide +kernel
theorem dX7_third_99 : decode cX7_third 99 = .ok (.istore_n 2, 1) := by decide +kernel
theorem dX7_third_100 : decode cX7_third 100 = .ok (.iinc 3 1, 3) := by decide +kernel
theorem dX7_third_103 : decode cX7_third 103 = .ok (.goto (-83), 3) := by decide +kernel
theorem dX7_third_106 : decode cX7_third 106 = .ok (.iload_n 1, 1) := by decide +kernel
theorem dX7_third_107 : decode cX7_third 107 = .ok (.bipush (-9), 2) := by decide +kernel
theorem dX7_third_109 : decode cX7_third 109 = .ok (.if_icmp .eq 8, 3) := by decide +kernel
theorem dX7_third_112 : decode cX7_third 112 = .ok (.aload_n 0, 1) := by decide +kernel
theorem dX7_third_113 : decode cX7_third 113 = .ok (.iload_n 2, 1) := by decide +kernel
theorem dX7_third_114 : decode cX7_third 114 = .ok (.putfield 186, 3) := by decide +kernel
theorem dX7_third_117 : decode cX7_third 117 = .ok (.iload_n 1, 1) := by decide +kernel
theorem dX7_third_118 : decode cX7_third 118 = .ok (.ireturn, 1) := by decide +kernel
theorem dX7_chance_0 : decode cX7_chance 0 = .ok (.aload_n 0, 1) := by decide +kernel
theorem dX7_chance_1 : decode cX7_chance 1 = .ok (.getfield 38, 3) := by decide +kernel
theorem dX7_chance_4 : decode cX7_chance 4 = .ok (.iload_n 1, 1) := by decide +kernel
theorem dX7_chance_5 : decode cX7_chance 5 = .ok (.invokevirtual 224, 3) := by decide +kernel
theorem dX7_chance_8 : decode cX7_chance 8 = .ok (.ifCond .eq 14, 3) := by decide +kernel
theorem dX7_chance_11 : decode cX7_chance 11 = .ok (.aload_n 0, 1) := by decide +kernel
theorem dX7_chance_12 : decode cX7_chance 12 = .ok (.getfield 38, 3) := by decide +kernel
theorem dX7_chance_15 : decode cX7_chance 15 = .ok (.iload_n 2, 1) := by decide +kernel
theorem dX7_chance_16 : decode cX7_chance 16 = .ok (.invokevirtual 227, 3) := by decide +kernel
theorem dX7_chance_19 : decode cX7_chance 19 = .ok (.ifCond .ne 5, 3) := by decide +kernel
theorem dX7_chance_22 : decode cX7_chance 22 = .ok (.iconst (-1), 1) := by decide +kernel
theorem dX7_chance_23 : decode cX7_chance 23 = .ok (.ireturn, 1) := by decide +kernel
theorem dX7_chance_24 : decode cX7_chance 24 = .ok (.aload_n 0, 1) := by decide +kernel
theorem dX7_chance_25 : decode cX7_chance 25 = .ok (.invokevirtual 205, 3) := by decide +kernel
theorem dX7_chance_28 : decode cX7_chance 28 = .ok (.ifCond .ne 9, 3) := by decide +kernel
theorem dX7_chance_31 : decode cX7_chance 31 = .ok (.aload_n 0, 1) := by decide +kernel
theorem dX7_chance_32 : decode cX7_chance 32 = .ok (.iconst 4, 1) := by decide +kernel
theorem dX7_chance_33 : decode cX7_chance 33 = .ok (.invokevirtual 79, 3) := by decide +kernel
theorem dX7_chance_36 : decode cX7_chance 36 = .ok (.ireturn, 1) := by decide +kernel
theorem dX7_chance_37 : decode cX7_chance 37 = .ok (.aload_n 0, 1) := by decide +kernel
theorem dX7_chance_38 : decode cX7_chance 38 = .ok (.getfield 31, 3) := by decide +kernel
theorem dX7_chance_41 : decode cX7_chance 41 = .ok (.aload_n 0, 1) := by decide +kernel
theorem dX7_chance_42 : decode cX7_chance 42 = .ok (.getfield 50, 3) := by decide +kernel
theorem dX7_chance_45 : decode cX7_chance 45 = .ok (.iload_n 2, 1) := by decide +kernel
theorem dX7_chance_46 : decode cX7_chance 46 = .ok (.invokevirtual 211, 3) := by decide +kernel
theorem dX7_chance_49 : decode cX7_chance 49 = .ok (.aload_n 0, 1) := by decide +kernel
theorem dX7_chance_50 : decode cX7_chance 50 = .ok (.getfield 31, 3) := by decide +kernel
theorem dX7_chance_53 : decode cX7_chance 53 = .ok (.aload_n 0, 1) := by decide +kernel
theorem dX7_chance_54 : decode cX7_chance 54 = .ok (.getfield 50, 3) := by decide +kernel
theorem dX7_chance_57 : decode cX7_chance 57 = .ok (.iconst 0, 1) := by decide +kernel
theorem dX7_chance_58 : decode cX7_chance 58 = .ok (.invokevirtual 215, 3) := by decide +kernel
theorem dX7_chance_61 : decode cX7_chance 61 = .ok (.lstore_n 3, 1) := by decide +kernel
theorem dX7_chance_62 : decode cX7_chance 62 = .ok (.lload_n 3, 1) := by decide +kernel
theorem dX7_chance_63 : decode cX7_chance 63 = .ok (.ldc2_w 219, 3) := by decide +kernel
theorem dX7_chance_66 : decode cX7_chance 66 = .ok (.lcmp, 1) := by decide +kernel
theorem dX7_chance_67 : decode cX7_chance 67 = .ok (.ifCond .le 6, 3) := by decide +kernel
theorem dX7_chance_70 : decode cX7_chance 70 = .ok (.bipush (-6), 2) := by decide +kernel
theorem dX7_chance_72 : decode cX7_chance 72 = .ok (.ireturn, 1) := by decide +kernel
theorem dX7_chance_73 : decode cX7_chance 73 = .ok (.aload_n 0, 1) := by decide +kernel
theorem dX7_chance_74 : decode cX7_chance 74 = .ok (.aload_n 0, 1) := by decide +kernel
theorem dX7_chance_75 : decode cX7_chance 75 = .ok (.getfield 31, 3) := by decide +kernel
theorem dX7_chance_78 : decode cX7_chance 78 = .ok (.aload_n 0, 1) := by decide +kernel
theorem dX7_chance_79 : decode cX7_chance 79 = .ok (.getfield 50, 3) := by decide +kernel
theorem dX7_chance_82 : decode cX7_chance 82 = .ok (.sipush 4161, 3) := by decide +kernel
theorem dX7_chance_85 : decode cX7_chance 85 = .ok (.iload_n 1, 1) := by decide +kernel
theorem dX7_chance_86 : decode cX7_chance 86 = .ok (.ishl, 1) := by decide +kernel
theorem dX7_chance_87 : decode cX7_chance 87 = .ok (.invokevirtual 215, 3) := by decide +kernel
theorem dX7_chance_90 : decode cX7_chance 90 = .ok (.lload_n 3, 1) := by decide +kernel
theorem dX7_chance_91 : decode cX7_chance 91 = .ok (.invokevirtual 295, 3) := by decide +kernel
theorem dX7_chance_94 : decode cX7_chance 94 = .ok (.iconst 1, 1) := by decide +kernel
theorem dX7_chance_95 : decode cX7_chance 95 = .ok (.ireturn, 1) := by decide +kernel
theorem dX7_likely_0 : decode cX7_likely 0 = .ok (.aload_n 0, 1) := by decide +kernel
theorem dX7_likely_1 : decode cX7_likely 1 = .ok (.getfield 38, 3) := by decide +kernel
theorem dX7_likely_4 : decode cX7_likely 4 = .ok (.iload_n 1, 1) := by decide +kernel
theorem dX7_likely_5 : decode cX7_likely 5 = .ok (.invokevirtual 170, 3) := by decide +kernel
theorem dX7_likely_8 : decode cX7_likely 8 = .ok (.ifCond .eq 14, 3) := by decide +kernel
theorem dX7_likely_11 : decode cX7_likely 11 = .ok (.aload_n 0, 1) := by decide +kernel
theorem dX7_likely_12 : decode cX7_likely 12 = .ok (.getfield 38, 3) := by decide +kernel
theorem dX7_likely_15 : decode cX7_likely 15 = .ok (.iload_n 2, 1) := by decide +kernel
theorem dX7_likely_16 : decode cX7_likely 16 = .ok (.invokevirtual 227, 3) := by decide +kernel
theorem dX7_likely_19 : decode cX7_likely 19 = .ok (.ifCond .ne 5, 3) := by decide +kernel
theorem dX7_likely_22 : decode cX7_likely 22 = .ok (.iconst (-1), 1) := by decide +kernel
theorem dX7_likely_23 : decode cX7_likely 23 = .ok (.ireturn, 1) := by decide +kernel
theorem dX7_likely_24 : decode cX7_likely 24 = .ok (.aload_n 0, 1) := by decide +kernel
theorem dX7_likely_25 : decode cX7_likely 25 = .ok (.invokevirtual 205, 3) := by decide +kernel
theorem dX7_likely_28 : decode cX7_likely 28 = .ok (.ifCond .ne 9, 3) := by decide +kernel
theorem dX7_likely_31 : decode cX7_likely 31 = .ok (.aload_n 0, 1) := by decide +kernel
theorem dX7_likely_32 : decode cX7_likely 32 = .ok (.iconst 4, 1) := by decide +kernel
theorem dX7_likely_33 : decode cX7_likely 33 = .ok (.invokevirtual 79, 3) := by decide +kernel
theorem dX7_likely_36 : decode cX7_likely 36 = .ok (.ireturn, 1) := by decide +kernel
theorem dX7_likely_37 : decode cX7_likely 37 = .ok (.aload_n 0, 1) := by decide +kernel
theorem dX7_likely_38 : decode cX7_likely 38 = .ok (.getfield 31, 3) := by decide +kernel
theorem dX7_likely_41 : decode cX7_likely 41 = .ok (.aload_n 0, 1) := by decide +kernel
theorem dX7_likely_42 : decode cX7_likely 42 = .ok (.getfield 50, 3) := by decide +kernel
theorem dX7_likely_45 : decode cX7_likely 45 = .ok (.iload_n 2, 1) := by decide +kernel
theorem dX7_likely_46 : decode cX7_likely 46 = .ok (.invokevirtual 211, 3) := by decide +kernel
theorem dX7_likely_49 : decode cX7_likely 49 = .ok (.aload_n 0, 1) := by decide +kernel
theorem dX7_likely_50 : decode cX7_likely 50 = .ok (.getfield 31, 3) := by decide +kernel
theorem dX7_likely_53 : decode cX7_likely 53 = .ok (.aload_n 0, 1) := by decide +kernel
theorem dX7_likely_54 : decode cX7_likely 54 = .ok (.getfield 50, 3) := by decide +kernel
theorem dX7_likely_57 : decode cX7_likely 57 = .ok (.iconst 0, 1) := by decide +kernel
theorem dX7_likely_58 : decode cX7_likely 58 = .ok (.invokevirtual 215, 3) := by decide +kernel
theorem dX7_likely_61 : decode cX7_likely 61 = .ok (.lstore_n 3, 1) := by decide +kernel
theorem dX7_likely_62 : decode cX7_likely 62 = .ok (.lload_n 3, 1) := by decide +kernel
theorem dX7_likely_63 : decode cX7_likely 63 = .ok (.ldc2_w 219, 3) := by decide +kernel
theorem dX7_likely_66 : decode cX7_likely 66 = .ok (.lcmp, 1) := by decide +kernel
theorem dX7_likely_67 : decode cX7_likely 67 = .ok (.ifCond .le 6, 3) := by decide +kernel
theorem dX7_likely_70 : decode cX7_likely 70 = .ok (.bipush (-6), 2) := by decide +kernel
theorem dX7_likely_72 : decode cX7_likely 72 = .ok (.ireturn, 1) := by decide +kernel
theorem dX7_likely_73 : decode cX7_likely 73 = .ok (.iconst 0, 1) := by decide +kernel
theorem dX7_likely_74 : decode cX7_likely 74 = .ok (.istore 5, 2) := by decide +kernel
theorem dX7_likely_76 : decode cX7_likely 76 = .ok (.ldc2_w 299, 3) := by decide +kernel
theorem dX7_likely_79 : decode cX7_likely 79 = .ok (.lstore 6, 2) := by decide +kernel
theorem dX7_likely_81 : decode cX7_likely 81 = .ok (.iconst 0, 1) := by decide +kernel
theorem dX7_likely_82 : decode cX7_likely 82 = .ok (.istore 8, 2) := by decide +kernel
theorem dX7_likely_84 : decode cX7_likely 84 = .ok (.iload 8, 2) := by decide +kernel
theorem dX7_likely_86 : decode cX7_likely 86 = .ok (.aload_n 0, 1) := by decide +kernel
theorem dX7_likely_87 : decode cX7_likely 87 = .ok (.getfield 38, 3) := by decide +kernel
theorem dX7_likely_90 : decode cX7_likely 90 = .ok (.getfield 301, 3) := by decide +kernel
theorem dX7_likely_93 : decode cX7_likely 93 = .ok (.if_icmp .ge 44, 3) := by decide +kernel
theorem dX7_likely_96 : decode cX7_likely 96 = .ok (.aload_n 0, 1) := by decide +kernel
theorem dX7_likely_97 : decode cX7_likely 97 = .ok (.getfield 31, 3) := by decide +kernel
theorem dX7_likely_100 : decode cX7_likely 100 = .ok (.aload_n 0, 1) := by decide +kernel
theorem dX7_likely_101 : decode cX7_likely 101 = .ok (.getfield 50, 3) := by decide +kernel
theorem dX7_likely_104 : decode cX7_likely 104 = .ok (.iload_n 1, 1) := by decide +kernel
theorem dX7_likely_105 : decode cX7_likely 105 = .ok (.iload 8, 2) := by decide +kernel
theorem dX7_likely_107 : decode cX7_likely 107 = .ok (.invokestatic 304, 3) := by decide +kernel
theorem dX7_likely_110 : decode cX7_likely 110 = .ok (.invokevirtual 215, 3) := by decide +kernel
theorem dX7_likely_113 : decode cX7_likely 113 = .ok (.lstore 9, 2) := by decide +kernel
theorem dX7_likely_115 : decode cX7_likely 115 = .ok (.lload 9, 2) := by decide +kernel
theorem dX7_likely_117 : decode cX7_likely 117 = .ok (.lload 6, 2) := by decide +kernel
theorem dX7_likely_119 : decode cX7_likely 119 = .ok (.lcmp, 1) := by decide +kernel
theorem dX7_likely_120 : decode cX7_likely 120 = .ok (.ifCond .le 11, 3) := by decide +kernel
theorem dX7_likely_123 : decode cX7_likely 123 = .ok (.iload 8, 2) := by decide +kernel
theorem dX7_likely_125 : decode cX7_likely 125 = .ok (.istore 5, 2) := by decide +kernel
theorem dX7_likely_127 : decode cX7_likely 127 = .ok (.lload 9, 2) := by decide +kernel
theorem dX7_likely_129 : decode cX7_likely 129 = .ok (.lstore 6, 2) := by decide +kernel
theorem dX7_likely_131 : decode cX7_likely 131 = .ok (.iinc 8 1, 3) := by decide +kernel
theorem dX7_likely_134 : decode cX7_likely 134 = .ok (.goto (-50), 3) := by decide +kernel
theorem dX7_likely_137 : decode cX7_likely 137 = .ok (.aload_n 0, 1) := by decide +kernel
theorem dX7_likely_138 : decode cX7_likely 138 = .ok (.lload 6, 2) := by decide +kernel
theorem dX7_likely_140 : decode cX7_likely 140 = .ok (.lload_n 3, 1) := by decide +kernel
theorem dX7_likely_141 : decode cX7_likely 141 = .ok (.invokevirtual 295, 3) := by decide +kernel
theorem dX7_likely_144 : decode cX7_likely 144 = .ok (.iload 5, 2) := by decide +kernel
theorem dX7_likely_146 : decode cX7_likely 146 = .ok (.ireturn, 1) := by decide +kernel
theorem dX7_cheapest_0 : decode cX7_cheapest 0 = .ok (.iload_n 1, 1) := by decide +kernel
theorem dX7_cheapest_1 : decode cX7_cheapest 1 = .ok (.invokestatic 307, 3) := by decide +kernel
theorem dX7_cheapest_4 : decode cX7_cheapest 4 = .ok (.ifCond .eq 10, 3) := by decide +kernel
theorem dX7_cheapest_7 : decode cX7_cheapest 7 = .ok (.iload_n 2, 1) := by decide +kernel
theorem dX7_cheapest_8 : decode cX7_cheapest 8 = .ok (.invokestatic 307, 3) := by decide +kernel
theorem dX7_cheapest_11 : decode cX7_cheapest 11 = .ok (.ifCond .ne 5, 3) := by decide +kernel
theorem dX7_cheapest_14 : decode cX7_cheapest 14 = .ok (.iconst (-1), 1) := by decide +kernel
theorem dX7_cheapest_15 : decode cX7_cheapest 15 = .ok (.ireturn, 1) := by decide +kernel
theorem dX7_cheapest_16 : decode cX7_cheapest 16 = .ok (.aload_n 0, 1) := by decide +kernel
theorem dX7_cheapest_17 : decode cX7_cheapest 17 = .ok (.aload_n 0, 1) := by decide +kernel
theorem dX7_cheapest_18 : decode cX7_cheapest 18 = .ok (.getfield 38, 3) := by decide +kernel
theorem dX7_cheapest_21 : decode cX7_cheapest 21 = .ok (.getfield 189, 3) := by decide +kernel
theorem dX7_cheapest_24 : decode cX7_cheapest 24 = .ok (.iload_n 1, 1) := by decide +kernel
theorem dX7_cheapest_25 : decode cX7_cheapest 25 = .ok (.iload_n 2, 1) := by decide +kernel
theorem dX7_cheapest_26 : decode cX7_cheapest 26 = .ok (.invokevirtual 310, 3) := by decide +kernel
theorem dX7_cheapest_29 : decode cX7_cheapest 29 = .ok (.lstore_n 3, 1) := by decide +kernel
theorem dX7_cheapest_30 : decode cX7_cheapest 30 = .ok (.lload_n 3, 1) := by decide +kernel
theorem dX7_cheapest_31 : decode cX7_cheapest 31 = .ok (.lconst 0, 1) := by decide +kernel
theorem dX7_cheapest_32 : decode cX7_cheapest 32 = .ok (.lcmp, 1) := by decide +kernel
theorem dX7_cheapest_33 : decode cX7_cheapest 33 = .ok (.ifCond .ge 6, 3) := by decide +kernel
theorem dX7_cheapest_36 : decode cX7_cheapest 36 = .ok (.bipush (-9), 2) := by decide +kernel
theorem dX7_cheapest_38 : decode cX7_cheapest 38 = .ok (.ireturn, 1) := by decide +kernel
theorem dX7_cheapest_39 : decode cX7_cheapest 39 = .ok (.aload_n 0, 1) := by decide +kernel
theorem dX7_cheapest_40 : decode cX7_cheapest 40 = .ok (.lload_n 3, 1) := by decide +kernel
theorem dX7_cheapest_41 : decode cX7_cheapest 41 = .ok (.ldc2_w 314, 3) := by decide +kernel
theorem dX7_cheapest_44 : decode cX7_cheapest 44 = .ok (.lrem, 1) := by decide +kernel
theorem dX7_cheapest_45 : decode cX7_cheapest 45 = .ok (.l2i, 1) := by decide +kernel
theorem dX7_cheapest_46 : decode cX7_cheapest 46 = .ok (.putfield 186, 3) := by decide +kernel
theorem dX7_cheapest_49 : decode cX7_cheapest 49 = .ok (.lload_n 3, 1) := by decide +kernel
theorem dX7_cheapest_50 : decode cX7_cheapest 50 = .ok (.ldc2_w 314, 3) := by decide +kernel
theorem dX7_cheapest_53 : decode cX7_cheapest 53 = .ok (.ldiv, 1) := by decide +kernel
theorem dX7_cheapest_54 : decode cX7_cheapest 54 = .ok (.l2i, 1) := by decide +kernel
theorem dX7_cheapest_55 : decode cX7_cheapest 55 = .ok (.ireturn, 1) := by decide +kernel
theorem dX7_settle_0 : decode cX7_settle 0 = .ok (.iload_n 1, 1) := by decide +kernel
theorem dX7_settle_1 : decode cX7_settle 1 = .ok (.invokestatic 307, 3) := by decide +kernel
theorem dX7_settle_4 : decode cX7_settle 4 = .ok (.ifCond .eq 17, 3) := by decide +kernel
theorem dX7_settle_7 : decode cX7_settle 7 = .ok (.iload_n 2, 1) := by decide +kernel
theorem dX7_settle_8 : decode cX7_settle 8 = .ok (.invokestatic 307, 3) := by decide +kernel
theorem dX7_settle_11 : decode cX7_settle 11 = .ok (.ifCond .eq 10, 3) := by decide +kernel
theorem dX7_settle_14 : decode cX7_settle 14 = .ok (.iload_n 3, 1) := by decide +kernel
theorem dX7_settle_15 : decode cX7_settle 15 = .ok (.invokestatic 307, 3) := by decide +kernel
theorem dX7_settle_18 : decode cX7_settle 18 = .ok (.ifCond .ne 5, 3) := by decide +kernel
theorem dX7_settle_21 : decode cX7_settle 21 = .ok (.iconst (-1), 1) := by decide +kernel
theorem dX7_settle_22 : decode cX7_settle 22 = .ok (.ireturn, 1) := by decide +kernel
theorem dX7_settle_23 : decode cX7_settle 23 = .ok (.bipush (-9), 2) := by decide +kernel
theorem dX7_settle_25 : decode cX7_settle 25 = .ok (.istore 4, 2) := by decide +kernel
theorem dX7_settle_27 : decode cX7_settle 27 = .ok (.iconst 0, 1) := by decide +kernel
theorem dX7_settle_28 : decode cX7_settle 28 = .ok (.istore 5, 2) := by decide +kernel
theorem dX7_settle_30 : decode cX7_settle 30 = .ok (.iconst 0, 1) := by decide +kernel
theorem dX7_settle_31 : decode cX7_settle 31 = .ok (.istore 6, 2) := by decide +kernel
theorem dX7_settle_33 : decode cX7_settle 33 = .ok (.iload 6, 2) := by decide +kernel
theorem dX7_settle_35 : decode cX7_settle 35 = .ok (.aload_n 0, 1) := by decide +kernel
theorem dX7_settle_36 : decode cX7_settle 36 = .ok (.getfield 38, 3) := by decide +kernel
theorem dX7_settle_39 : decode cX7_settle 39 = .ok (.getfield 189, 3) := by decide +kernel
theorem dX7_settle_42 : decode cX7_settle 42 = .ok (.if_icmp .gt 62, 3) := by decide +kernel
theorem dX7_settle_45 : decode cX7_settle 45 = .ok (.aload_n 0, 1) := by decide +kernel
theorem dX7_settle_46 : decode cX7_settle 46 = .ok (.iload 6, 2) := by decide +kernel
theorem dX7_settle_48 : decode cX7_settle 48 = .ok (.iload_n 1, 1) := by decide +kernel
theorem dX7_settle_49 : decode cX7_settle 49 = .ok (.iload_n 2, 1) := by decide +kernel
theorem dX7_settle_50 : decode cX7_settle 50 = .ok (.invokevirtual 310, 3) := by decide +kernel
theorem dX7_settle_53 : decode cX7_settle 53 = .ok (.lstore 7, 2) := by decide +kernel
theorem dX7_settle_55 : decode cX7_settle 55 = .ok (.lload 7, 2) := by decide +kernel
theorem dX7_settle_57 : decode cX7_settle 57 = .ok (.ldc2_w 314, 3) := by decide +kernel
theorem dX7_settle_60 : decode cX7_settle 60 = .ok (.ldiv, 1) := by decide +kernel
theorem dX7_settle_61 : decode cX7_settle 61 = .ok (.l2i, 1) := by decide +kernel
theorem dX7_settle_62 : decode cX7_settle 62 = .ok (.iload 6, 2) := by decide +kernel
theorem dX7_settle_64 : decode cX7_settle 64 = .ok (.iload_n 3, 1) := by decide +kernel
theorem dX7_settle_65 : decode cX7_settle 65 = .ok (.imul, 1) := by decide +kernel
theorem dX7_settle_66 : decode cX7_settle 66 = .ok (.iadd, 1) := by decide +kernel
theorem dX7_settle_67 : decode cX7_settle 67 = .ok (.istore 9, 2) := by decide +kernel
theorem dX7_settle_69 : decode cX7_settle 69 = .ok (.lload 7, 2) := by decide +kernel
theorem dX7_settle_71 : decode cX7_settle 71 = .ok (.lconst 0, 1) := by decide +kernel
theorem dX7_settle_72 : decode cX7_settle 72 = .ok (.lcmp, 1) := by decide +kernel
theorem dX7_settle_73 : decode cX7_settle 73 = .ok (.ifCond .lt 25, 3) := by decide +kernel
theorem dX7_settle_76 : decode cX7_settle 76 = .ok (.iload 4, 2) := by decide +kernel
theorem dX7_settle_78 : decode cX7_settle 78 = .ok (.bipush (-9), 2) := by decide +kernel
theorem dX7_settle_80 : decode cX7_settle 80 = .ok (.if_icmp .eq 10, 3) := by decide +kernel
theorem dX7_settle_83 : decode cX7_settle 83 = .ok (.iload 9, 2) := by decide +kernel
theorem dX7_settle_85 : decode cX7_settle 85 = .ok (.iload 5, 2) := by decide +kernel
theorem dX7_settle_87 : decode cX7_settle 87 = .ok (.if_icmp .ge 11, 3) := by decide +kernel
theorem dX7_settle_90 : decode cX7_settle 90 = .ok (.iload 6, 2) := by decide +kernel
theorem dX7_settle_92 : decode cX7_settle 92 = .ok (.istore 4, 2) := by decide +kernel
theorem dX7_settle_94 : decode cX7_settle 94 = .ok (.iload 9, 2) := by decide +kernel
theorem dX7_settle_96 : decode cX7_settle 96 = .ok (.istore 5, 2) := by decide +kernel
theorem dX7_settle_98 : decode cX7_settle 98 = .ok (.iinc 6 1, 3) := by decide +kernel
theorem dX7_settle_101 : decode cX7_settle 101 = .ok (.goto (-68), 3) := by decide +kernel
theorem dX7_settle_104 : decode cX7_settle 104 = .ok (.iload 4, 2) := by decide +kernel
theorem dX7_settle_106 : decode cX7_settle 106 = .ok (.bipush (-9), 2) := by decide +kernel
theorem dX7_settle_108 : decode cX7_settle 108 = .ok (.if_icmp .eq 9, 3) := by decide +kernel
theorem dX7_settle_111 : decode cX7_settle 111 = .ok (.aload_n 0, 1) := by decide +kernel
theorem dX7_settle_112 : decode cX7_settle 112 = .ok (.iload 5, 2) := by decide +kernel
theorem dX7_settle_114 : decode cX7_settle 114 = .ok (.putfield 186, 3) := by decide +kernel
theorem dX7_settle_117 : decode cX7_settle 117 = .ok (.iload 4, 2) := by decide +kernel
theorem dX7_settle_119 : decode cX7_settle 119 = .ok (.ireturn, 1) := by decide +kernel
theorem dX7_stuck_0 : decode cX7_stuck 0 = .ok (.aload_n 0, 1) := by decide +kernel
theorem dX7_stuck_1 : decode cX7_stuck 1 = .ok (.invokevirtual 179, 3) := by decide +kernel
theorem dX7_stuck_4 : decode cX7_stuck 4 = .ok (.ifCond .eq 6, 3) := by decide +kernel
theorem dX7_stuck_7 : decode cX7_stuck 7 = .ok (.bipush (-4), 2) := by decide +kernel
theorem dX7_stuck_9 : decode cX7_stuck 9 = .ok (.ireturn, 1) := by decide +kernel
theorem dX7_stuck_10 : decode cX7_stuck 10 = .ok (.iconst 0, 1) := by decide +kernel
theorem dX7_stuck_11 : decode cX7_stuck 11 = .ok (.istore_n 1, 1) := by decide +kernel
theorem dX7_stuck_12 : decode cX7_stuck 12 = .ok (.iload_n 1, 1) := by decide +kernel
theorem dX7_stuck_13 : decode cX7_stuck 13 = .ok (.aload_n 0, 1) := by decide +kernel
theorem dX7_stuck_14 : decode cX7_stuck 14 = .ok (.getfield 38, 3) := by decide +kernel
theorem dX7_stuck_17 : decode cX7_stuck 17 = .ok (.getfield 132, 3) := by decide +kernel
theorem dX7_stuck_20 : decode cX7_stuck 20 = .ok (.if_icmp .ge 44, 3) := by decide +kernel
theorem dX7_stuck_23 : decode cX7_stuck 23 = .ok (.aload_n 0, 1) := by decide +kernel
theorem dX7_stuck_24 : decode cX7_stuck 24 = .ok (.getfield 38, 3) := by decide +kernel
theorem dX7_stuck_27 : decode cX7_stuck 27 = .ok (.iload_n 1, 1) := by decide +kernel
theorem dX7_stuck_28 : decode cX7_stuck 28 = .ok (.invokevirtual 292, 3) := by decide +kernel
theorem dX7_stuck_31 : decode cX7_stuck 31 = .ok (.ifCond .eq 11, 3) := by decide +kernel
theorem dX7_stuck_34 : decode cX7_stuck 34 = .ok (.aload_n 0, 1) := by decide +kernel
theorem dX7_stuck_35 : decode cX7_stuck 35 = .ok (.iload_n 1, 1) := by decide +kernel
theorem dX7_stuck_36 : decode cX7_stuck 36 = .ok (.invokevirtual 316, 3) := by decide +kernel
theorem dX7_stuck_39 : decode cX7_stuck 39 = .ok (.goto 5, 3) := by decide +kernel
theorem dX7_stuck_42 : decode cX7_stuck 42 = .ok (.bipush (-9), 2) := by decide +kernel
theorem dX7_stuck_44 : decode cX7_stuck 44 = .ok (.istore_n 2, 1) := by decide +kernel
theorem dX7_stuck_45 : decode cX7_stuck 45 = .ok (.iload_n 2, 1) := by decide +kernel
theorem dX7_stuck_46 : decode cX7_stuck 46 = .ok (.bipush (-9), 2) := by decide +kernel
theorem dX7_stuck_48 : decode cX7_stuck 48 = .ok (.if_icmp .eq 10, 3) := by decide +kernel
theorem dX7_stuck_51 : decode cX7_stuck 51 = .ok (.bipush 100, 2) := by decide +kernel
theorem dX7_stuck_53 : decode cX7_stuck 53 = .ok (.iload_n 1, 1) := by decide +kernel
theorem dX7_stuck_54 : decode cX7_stuck 54 = .ok (.imul, 1) := by decide +kernel
theorem dX7_stuck_55 : decode cX7_stuck 55 = .ok (.iload_n 2, 1) := by decide +kernel
theorem dX7_stuck_56 : decode cX7_stuck 56 = .ok (.iadd, 1) := by decide +kernel
theorem dX7_stuck_57 : decode cX7_stuck 57 = .ok (.ireturn, 1) := by decide +kernel
theorem dX7_stuck_58 : decode cX7_stuck 58 = .ok (.iinc 1 1, 3) := by decide +kernel
theorem dX7_stuck_61 : decode cX7_stuck 61 = .ok (.goto (-49), 3) := by decide +kernel
theorem dX7_stuck_64 : decode cX7_stuck 64 = .ok (.bipush (-9), 2) := by decide +kernel
theorem dX7_stuck_66 : decode cX7_stuck 66 = .ok (.ireturn, 1) := by decide +kernel
theorem dX7_quarrel_0 : decode cX7_quarrel 0 = .ok (.aload_n 0, 1) := by decide +kernel
theorem dX7_quarrel_1 : decode cX7_quarrel 1 = .ok (.invokevirtual 179, 3) := by decide +kernel
theorem dX7_quarrel_4 : decode cX7_quarrel 4 = .ok (.ifCond .eq 6, 3) := by decide +kernel
theorem dX7_quarrel_7 : decode cX7_quarrel 7 = .ok (.bipush (-4), 2) := by decide +kernel
theorem dX7_quarrel_9 : decode cX7_quarrel 9 = .ok (.ireturn, 1) := by decide +kernel
theorem dX7_quarrel_10 : decode cX7_quarrel 10 = .ok (.iconst 0, 1) := by decide +kernel
theorem dX7_quarrel_11 : decode cX7_quarrel 11 = .ok (.istore_n 1, 1) := by decide +kernel
theorem dX7_quarrel_12 : decode cX7_quarrel 12 = .ok (.iconst 0, 1) := by decide +kernel
theorem dX7_quarrel_13 : decode cX7_quarrel 13 = .ok (.istore_n 2, 1) := by decide +kernel
theorem dX7_quarrel_14 : decode cX7_quarrel 14 = .ok (.iload_n 2, 1) := by decide +kernel
theorem dX7_quarrel_15 : decode cX7_quarrel 15 = .ok (.aload_n 0, 1) := by decide +kernel
theorem dX7_quarrel_16 : decode cX7_quarrel 16 = .ok (.getfield 60, 3) := by decide +kernel
theorem dX7_quarrel_19 : decode cX7_quarrel 19 = .ok (.getfield 124, 3) := by decide +kernel
theorem dX7_quarrel_22 : decode cX7_quarrel 22 = .ok (.if_icmp .ge 73, 3) := by decide +kernel
theorem dX7_quarrel_25 : decode cX7_quarrel 25 = .ok (.aload_n 0, 1) := by decide +kernel
theorem dX7_quarrel_26 : decode cX7_quarrel 26 = .ok (.getfield 54, 3) := by decide +kernel
theorem dX7_quarrel_29 : decode cX7_quarrel 29 = .ok (.aload_n 0, 1) := by decide +kernel
theorem dX7_quarrel_30 : decode cX7_quarrel 30 = .ok (.getfield 38, 3) := by decide +kernel
theorem dX7_quarrel_33 : decode cX7_quarrel 33 = .ok (.aload_n 0, 1) := by decide +kernel
theorem dX7_quarrel_34 : decode cX7_quarrel 34 = .ok (.getfield 38, 3) := by decide +kernel
theorem dX7_quarrel_37 : decode cX7_quarrel 37 = .ok (.getfield 189, 3) := by decide +kernel
theorem dX7_quarrel_40 : decode cX7_quarrel 40 = .ok (.aload_n 0, 1) := by decide +kernel
theorem dX7_quarrel_41 : decode cX7_quarrel 41 = .ok (.getfield 38, 3) := by decide +kernel
theorem dX7_quarrel_44 : decode cX7_quarrel 44 = .ok (.getfield 192, 3) := by decide +kernel
theorem dX7_quarrel_47 : decode cX7_quarrel 47 = .ok (.invokevirtual 195, 3) := by decide +kernel
theorem dX7_quarrel_50 : decode cX7_quarrel 50 = .ok (.aload_n 0, 1) := by decide +kernel
theorem dX7_quarrel_51 : decode cX7_quarrel 51 = .ok (.getfield 54, 3) := by decide +kernel
theorem dX7_quarrel_54 : decode cX7_quarrel 54 = .ok (.aload_n 0, 1) := by decide +kernel
theorem dX7_quarrel_55 : decode cX7_quarrel 55 = .ok (.getfield 60, 3) := by decide +kernel
theorem dX7_quarrel_58 : decode cX7_quarrel 58 = .ok (.iload_n 1, 1) := by decide +kernel
theorem dX7_quarrel_59 : decode cX7_quarrel 59 = .ok (.iconst 1, 1) := by decide +kernel
theorem dX7_quarrel_60 : decode cX7_quarrel 60 = .ok (.iload_n 2, 1) := by decide +kernel
theorem dX7_quarrel_61 : decode cX7_quarrel 61 = .ok (.ishl, 1) := by decide +kernel
theorem dX7_quarrel_62 : decode cX7_quarrel 62 = .ok (.ior, 1) := by decide +kernel
theorem dX7_quarrel_63 : decode cX7_quarrel 63 = .ok (.invokevirtual 198, 3) := by decide +kernel
theorem dX7_quarrel_66 : decode cX7_quarrel 66 = .ok (.aload_n 0, 1) := by decide +kernel
theorem dX7_quarrel_67 : decode cX7_quarrel 67 = .ok (.getfield 31, 3) := by decide +kernel
theorem dX7_quarrel_70 : decode cX7_quarrel 70 = .ok (.aload_n 0, 1) := by decide +kernel
theorem dX7_quarrel_71 : decode cX7_quarrel 71 = .ok (.getfield 54, 3) := by decide +kernel
theorem dX7_quarrel_74 : decode cX7_quarrel 74 = .ok (.iconst 0, 1) := by decide +kernel
theorem dX7_quarrel_75 : decode cX7_quarrel 75 = .ok (.invokevirtual 201, 3) := by decide +kernel
theorem dX7_quarrel_78 : decode cX7_quarrel 78 = .ok (.bipush (-9), 2) := by decide +kernel
theorem dX7_quarrel_80 : decode cX7_quarrel 80 = .ok (.if_icmp .eq 9, 3) := by decide +kernel
theorem dX7_quarrel_83 : decode cX7_quarrel 83 = .ok (.iload_n 1, 1) := by decide +kernel
theorem dX7_quarrel_84 : decode cX7_quarrel 84 = .ok (.iconst 1, 1) := by decide +kernel
theorem dX7_quarrel_85 : decode cX7_quarrel 85 = .ok (.iload_n 2, 1) := by decide +kernel
theorem dX7_quarrel_86 : decode cX7_quarrel 86 = .ok (.ishl, 1) := by decide +kernel
theorem dX7_quarrel_87 : decode cX7_quarrel 87 = .ok (.ior, 1) := by decide +kernel
theorem dX7_quarrel_88 : decode cX7_quarrel 88 = .ok (.istore_n 1, 1) := by decide +kernel
theorem dX7_quarrel_89 : decode cX7_quarrel 89 = .ok (.iinc 2 1, 3) := by decide +kernel
theorem dX7_quarrel_92 : decode cX7_quarrel 92 = .ok (.goto (-78), 3) := by decide +kernel
theorem dX7_quarrel_95 : decode cX7_quarrel 95 = .ok (.iconst 1, 1) := by decide +kernel
theorem dX7_quarrel_96 : decode cX7_quarrel 96 = .ok (.aload_n 0, 1) := by decide +kernel
theorem dX7_quarrel_97 : decode cX7_quarrel 97 = .ok (.getfield 60, 3) := by decide +kernel
theorem dX7_quarrel_100 : decode cX7_quarrel 100 = .ok (.getfield 124, 3) := by decide +kernel
theorem dX7_quarrel_103 : decode cX7_quarrel 103 = .ok (.ishl, 1) := by decide +kernel
theorem dX7_quarrel_104 : decode cX7_quarrel 104 = .ok (.iconst 1, 1) := by decide +kernel
theorem dX7_quarrel_105 : decode cX7_quarrel 105 = .ok (.isub, 1) := by decide +kernel
theorem dX7_quarrel_106 : decode cX7_quarrel 106 = .ok (.iload_n 1, 1) := by decide +kernel
theorem dX7_quarrel_107 : decode cX7_quarrel 107 = .ok (.iconst (-1), 1) := by decide +kernel
theorem dX7_quarrel_108 : decode cX7_quarrel 108 = .ok (.ixor, 1) := by decide +kernel
theorem dX7_quarrel_109 : decode cX7_quarrel 109 = .ok (.iand, 1) := by decide +kernel
theorem dX7_quarrel_110 : decode cX7_quarrel 110 = .ok (.istore_n 2, 1) := by decide +kernel
theorem dX7_quarrel_111 : decode cX7_quarrel 111 = .ok (.aload_n 0, 1) := by decide +kernel
theorem dX7_quarrel_112 : decode cX7_quarrel 112 = .ok (.iload_n 2, 1) := by decide +kernel
theorem dX7_quarrel_113 : decode cX7_quarrel 113 = .ok (.i2l, 1) := by decide +kernel
theorem dX7_quarrel_114 : decode cX7_quarrel 114 = .ok (.putfield 221, 3) := by decide +kernel
theorem dX7_quarrel_117 : decode cX7_quarrel 117 = .ok (.iload_n 2, 1) := by decide +kernel
theorem dX7_quarrel_118 : decode cX7_quarrel 118 = .ok (.invokestatic 319, 3) := by decide +kernel
theorem dX7_quarrel_121 : decode cX7_quarrel 121 = .ok (.ireturn, 1) := by decide +kernel
theorem dX7_asked_0 : decode cX7_asked 0 = .ok (.aload_n 0, 1) := by decide +kernel
theorem dX7_asked_1 : decode cX7_asked 1 = .ok (.getfield 186, 3) := by decide +kernel
theorem dX7_asked_4 : decode cX7_asked 4 = .ok (.ireturn, 1) := by decide +kernel
theorem dX7_many_0 : decode cX7_many 0 = .ok (.aload_n 0, 1) := by decide +kernel
theorem dX7_many_1 : decode cX7_many 1 = .ok (.getfield 221, 3) := by decide +kernel
theorem dX7_many_4 : decode cX7_many 4 = .ok (.lreturn, 1) := by decide +kernel
theorem dX7_upper_0 : decode cX7_upper 0 = .ok (.aload_n 0, 1) := by decide +kernel
theorem dX7_upper_1 : decode cX7_upper 1 = .ok (.getfield 324, 3) := by decide +kernel
theorem dX7_upper_4 : decode cX7_upper 4 = .ok (.lreturn, 1) := by decide +kernel
theorem dX7_lower_0 : decode cX7_lower 0 = .ok (.aload_n 0, 1) := by decide +kernel
theorem dX7_lower_1 : decode cX7_lower 1 = .ok (.getfield 71, 3) := by decide +kernel
theorem dX7_lower_4 : decode cX7_lower 4 = .ok (.lreturn, 1) := by decide +kernel
theorem dX7_found_0 : decode cX7_found 0 = .ok (.aload_n 0, 1) := by decide +kernel
theorem dX7_found_1 : decode cX7_found 1 = .ok (.iload_n 1, 1) := by decide +kernel
theorem dX7_found_2 : decode cX7_found 2 = .ok (.putfield 333, 3) := by decide +kernel
theorem dX7_found_5 : decode cX7_found 5 = .ok (.aload_n 0, 1) := by decide +kernel
theorem dX7_found_6 : decode cX7_found 6 = .ok (.getfield 67, 3) := by decide +kernel
theorem dX7_found_9 : decode cX7_found 9 = .ok (.iload_n 1, 1) := by decide +kernel
theorem dX7_found_10 : decode cX7_found 10 = .ok (.dup2, 1) := by decide +kernel
theorem dX7_found_11 : decode cX7_found 11 = .ok (.iaload, 1) := by decide +kernel
theorem dX7_found_12 : decode cX7_found 12 = .ok (.iconst 1, 1) := by decide +kernel
theorem dX7_found_13 : decode cX7_found 13 = .ok (.iadd, 1) := by decide +kernel
theorem dX7_found_14 : decode cX7_found 14 = .ok (.iastore, 1) := by decide +kernel
theorem dX7_found_15 : decode cX7_found 15 = .ok (.bipush (-3), 2) := by decide +kernel
theorem dX7_found_17 : decode cX7_found 17 = .ok (.ireturn, 1) := by decide +kernel
theorem dX7_tellPart_0 : decode cX7_tellPart 0 = .ok (.lload_n 3, 1) := by decide +kernel
theorem dX7_tellPart_1 : decode cX7_tellPart 1 = .ok (.lstore 5, 2) := by decide +kernel
theorem dX7_tellPart_3 : decode cX7_tellPart 3 = .ok (.lload_n 1, 1) := by decide +kernel
theorem dX7_tellPart_4 : decode cX7_tellPart 4 = .ok (.lstore 7, 2) := by decide +kernel
theorem dX7_tellPart_6 : decode cX7_tellPart 6 = .ok (.iconst 0, 1) := by decide +kernel
theorem dX7_tellPart_7 : decode cX7_tellPart 7 = .ok (.istore 9, 2) := by decide +kernel
theorem dX7_tellPart_9 : decode cX7_tellPart 9 = .ok (.iload 9, 2) := by decide +kernel
theorem dX7_tellPart_11 : decode cX7_tellPart 11 = .ok (.bipush 100, 2) := by decide +kernel
theorem dX7_tellPart_13 : decode cX7_tellPart 13 = .ok (.if_icmp .ge 31, 3) := by decide +kernel
theorem dX7_tellPart_16 : decode cX7_tellPart 16 = .ok (.lload 7, 2) := by decide +kernel
theorem dX7_tellPart_18 : decode cX7_tellPart 18 = .ok (.lconst 0, 1) := by decide +kernel
theorem dX7_tellPart_19 : decode cX7_tellPart 19 = .ok (.lcmp, 1) := by decide +kernel
theorem dX7_tellPart_20 : decode cX7_tellPart 20 = .ok (.ifCond .eq 24, 3) := by decide +kernel
theorem dX7_tellPart_23 : decode cX7_tellPart 23 = .ok (.lload 5, 2) := by decide +kernel
theorem dX7_tellPart_25 : decode cX7_tellPart 25 = .ok (.lload 7, 2) := by decide +kernel
theorem dX7_tellPart_27 : decode cX7_tellPart 27 = .ok (.lrem, 1) := by decide +kernel
theorem dX7_tellPart_28 : decode cX7_tellPart 28 = .ok (.lstore 10, 2) := by decide +kernel
theorem dX7_tellPart_30 : decode cX7_tellPart 30 = .ok (.lload 7, 2) := by decide +kernel
theorem dX7_tellPart_32 : decode cX7_tellPart 32 = .ok (.lstore 5, 2) := by decide +kernel
theorem dX7_tellPart_34 : decode cX7_tellPart 34 = .ok (.lload 10, 2) := by decide +kernel
theorem dX7_tellPart_36 : decode cX7_tellPart 36 = .ok (.lstore 7, 2) := by decide +kernel
theorem dX7_tellPart_38 : decode cX7_tellPart 38 = .ok (.iinc 9 1, 3) := by decide +kernel
theorem dX7_tellPart_41 : decode cX7_tellPart 41 = .ok (.goto (-32), 3) := by decide +kernel
theorem dX7_tellPart_44 : decode cX7_tellPart 44 = .ok (.lload 5, 2) := by decide +kernel
theorem dX7_tellPart_46 : decode cX7_tellPart 46 = .ok (.lconst 0, 1) := by decide +kernel
theorem dX7_tellPart_47 : decode cX7_tellPart 47 = .ok (.lcmp, 1) := by decide +kernel
theorem dX7_tellPart_48 : decode cX7_tellPart 48 = .ok (.ifCond .ne 4, 3) := by decide +kernel
theorem dX7_tellPart_51 : decode cX7_tellPart 51 = .ok (.return_, 1) := by decide +kernel
theorem dX7_tellPart_52 : decode cX7_tellPart 52 = .ok (.aload_n 0, 1) := by decide +kernel
theorem dX7_tellPart_53 : decode cX7_tellPart 53 = .ok (.lload_n 1, 1) := by decide +kernel
theorem dX7_tellPart_54 : decode cX7_tellPart 54 = .ok (.lload 5, 2) := by decide +kernel
theorem dX7_tellPart_56 : decode cX7_tellPart 56 = .ok (.ldiv, 1) := by decide +kernel
theorem dX7_tellPart_57 : decode cX7_tellPart 57 = .ok (.putfield 324, 3) := by decide +kernel
theorem dX7_tellPart_60 : decode cX7_tellPart 60 = .ok (.aload_n 0, 1) := by decide +kernel
theorem dX7_tellPart_61 : decode cX7_tellPart 61 = .ok (.lload_n 3, 1) := by decide +kernel
theorem dX7_tellPart_62 : decode cX7_tellPart 62 = .ok (.lload 5, 2) := by decide +kernel
theorem dX7_tellPart_64 : decode cX7_tellPart 64 = .ok (.ldiv, 1) := by decide +kernel
theorem dX7_tellPart_65 : decode cX7_tellPart 65 = .ok (.putfield 71, 3) := by decide +kernel
theorem dX7_tellPart_68 : decode cX7_tellPart 68 = .ok (.return_, 1) := by decide +kernel
theorem dX7_faultOfHouse_0 : decode cX7_faultOfHouse 0 = .ok (.aload_n 0, 1) := by decide +kernel
theorem dX7_faultOfHouse_1 : decode cX7_faultOfHouse 1 = .ok (.getfield 24, 3) := by decide +kernel
theorem dX7_faultOfHouse_4 : decode cX7_faultOfHouse 4 = .ok (.aload_n 0, 1) := by decide +kernel
theorem dX7_faultOfHouse_5 : decode cX7_faultOfHouse 5 = .ok (.getfield 18, 3) := by decide +kernel
theorem dX7_faultOfHouse_8 : decode cX7_faultOfHouse 8 = .ok (.getfield 101, 3) := by decide +kernel
theorem dX7_faultOfHouse_11 : decode cX7_faultOfHouse 11 = .ok (.iload_n 1, 1) := by decide +kernel
theorem dX7_faultOfHouse_12 : decode cX7_faultOfHouse 12 = .ok (.aaload, 1) := by decide +kernel
theorem dX7_faultOfHouse_13 : decode cX7_faultOfHouse 13 = .ok (.aload_n 0, 1) := by decide +kernel
theorem dX7_faultOfHouse_14 : decode cX7_faultOfHouse 14 = .ok (.getfield 18, 3) := by decide +kernel
theorem dX7_faultOfHouse_17 : decode cX7_faultOfHouse 17 = .ok (.getfield 105, 3) := by decide +kernel
theorem dX7_faultOfHouse_20 : decode cX7_faultOfHouse 20 = .ok (.iload_n 1, 1) := by decide +kernel
theorem dX7_faultOfHouse_21 : decode cX7_faultOfHouse 21 = .ok (.iaload, 1) := by decide +kernel
theorem dX7_faultOfHouse_22 : decode cX7_faultOfHouse 22 = .ok (.invokevirtual 349, 3) := by decide +kernel
theorem dX7_faultOfHouse_25 : decode cX7_faultOfHouse 25 = .ok (.aload_n 0, 1) := by decide +kernel
theorem dX7_faultOfHouse_26 : decode cX7_faultOfHouse 26 = .ok (.getfield 24, 3) := by decide +kernel
theorem dX7_faultOfHouse_29 : decode cX7_faultOfHouse 29 = .ok (.aload_n 0, 1) := by decide +kernel
theorem dX7_faultOfHouse_30 : decode cX7_faultOfHouse 30 = .ok (.getfield 42, 3) := by decide +kernel
theorem dX7_faultOfHouse_33 : decode cX7_faultOfHouse 33 = .ok (.invokevirtual 353, 3) := by decide +kernel
theorem dX7_faultOfHouse_36 : decode cX7_faultOfHouse 36 = .ok (.aload_n 0, 1) := by decide +kernel
theorem dX7_faultOfHouse_37 : decode cX7_faultOfHouse 37 = .ok (.getfield 24, 3) := by decide +kernel
theorem dX7_faultOfHouse_40 : decode cX7_faultOfHouse 40 = .ok (.getfield 356, 3) := by decide +kernel
theorem dX7_faultOfHouse_43 : decode cX7_faultOfHouse 43 = .ok (.ifCond .eq 13, 3) := by decide +kernel
theorem dX7_faultOfHouse_46 : decode cX7_faultOfHouse 46 = .ok (.aload_n 0, 1) := by decide +kernel
theorem dX7_faultOfHouse_47 : decode cX7_faultOfHouse 47 = .ok (.getfield 24, 3) := by decide +kernel
theorem dX7_faultOfHouse_50 : decode cX7_faultOfHouse 50 = .ok (.getfield 359, 3) := by decide +kernel
theorem dX7_faultOfHouse_53 : decode cX7_faultOfHouse 53 = .ok (.goto 5, 3) := by decide +kernel
theorem dX7_faultOfHouse_56 : decode cX7_faultOfHouse 56 = .ok (.bipush (-9), 2) := by decide +kernel
theorem dX7_faultOfHouse_58 : decode cX7_faultOfHouse 58 = .ok (.ireturn, 1) := by decide +kernel
theorem dX7_faultOfNight_0 : decode cX7_faultOfNight 0 = .ok (.aload_n 0, 1) := by decide +kernel
theorem dX7_faultOfNight_1 : decode cX7_faultOfNight 1 = .ok (.getfield 24, 3) := by decide +kernel
theorem dX7_faultOfNight_4 : decode cX7_faultOfNight 4 = .ok (.aload_n 0, 1) := by decide +kernel
theorem dX7_faultOfNight_5 : decode cX7_faultOfNight 5 = .ok (.getfield 18, 3) := by decide +kernel
theorem dX7_faultOfNight_8 : decode cX7_faultOfNight 8 = .ok (.getfield 101, 3) := by decide +kernel
theorem dX7_faultOfNight_11 : decode cX7_faultOfNight 11 = .ok (.iload_n 1, 1) := by decide +kernel
theorem dX7_faultOfNight_12 : decode cX7_faultOfNight 12 = .ok (.aaload, 1) := by decide +kernel
theorem dX7_faultOfNight_13 : decode cX7_faultOfNight 13 = .ok (.aload_n 0, 1) := by decide +kernel
theorem dX7_faultOfNight_14 : decode cX7_faultOfNight 14 = .ok (.getfield 18, 3) := by decide +kernel
theorem dX7_faultOfNight_17 : decode cX7_faultOfNight 17 = .ok (.getfield 105, 3) := by decide +kernel
theorem dX7_faultOfNight_20 : decode cX7_faultOfNight 20 = .ok (.iload_n 1, 1) := by decide +kernel
theorem dX7_faultOfNight_21 : decode cX7_faultOfNight 21 = .ok (.iaload, 1) := by decide +kernel
theorem dX7_faultOfNight_22 : decode cX7_faultOfNight 22 = .ok (.invokevirtual 349, 3) := by decide +kernel
theorem dX7_faultOfNight_25 : decode cX7_faultOfNight 25 = .ok (.aload_n 0, 1) := by decide +kernel
theorem dX7_faultOfNight_26 : decode cX7_faultOfNight 26 = .ok (.getfield 24, 3) := by decide +kernel
theorem dX7_faultOfNight_29 : decode cX7_faultOfNight 29 = .ok (.aload_n 0, 1) := by decide +kernel
theorem dX7_faultOfNight_30 : decode cX7_faultOfNight 30 = .ok (.getfield 38, 3) := by decide +kernel
theorem dX7_faultOfNight_33 : decode cX7_faultOfNight 33 = .ok (.aload_n 0, 1) := by decide +kernel
theorem dX7_faultOfNight_34 : decode cX7_faultOfNight 34 = .ok (.getfield 64, 3) := by decide +kernel
theorem dX7_faultOfNight_37 : decode cX7_faultOfNight 37 = .ok (.invokevirtual 362, 3) := by decide +kernel
theorem dX7_faultOfNight_40 : decode cX7_faultOfNight 40 = .ok (.aload_n 0, 1) := by decide +kernel
theorem dX7_faultOfNight_41 : decode cX7_faultOfNight 41 = .ok (.getfield 24, 3) := by decide +kernel
theorem dX7_faultOfNight_44 : decode cX7_faultOfNight 44 = .ok (.getfield 356, 3) := by decide +kernel
theorem dX7_faultOfNight_47 : decode cX7_faultOfNight 47 = .ok (.ifCond .eq 13, 3) := by decide +kernel
theorem dX7_faultOfNight_50 : decode cX7_faultOfNight 50 = .ok (.aload_n 0, 1) := by decide +kernel
theorem dX7_faultOfNight_51 : decode cX7_faultOfNight 51 = .ok (.getfield 24, 3) := by decide +kernel
theorem dX7_faultOfNight_54 : decode cX7_faultOfNight 54 = .ok (.getfield 359, 3) := by decide +kernel
theorem dX7_faultOfNight_57 : decode cX7_faultOfNight 57 = .ok (.goto 5, 3) := by decide +kernel
theorem dX7_faultOfNight_60 : decode cX7_faultOfNight 60 = .ok (.bipush (-9), 2) := by decide +kernel
theorem dX7_faultOfNight_62 : decode cX7_faultOfNight 62 = .ok (.ireturn, 1) := by decide +kernel
theorem dX7_canBe_0 : decode cX7_canBe 0 = .ok (.aload_n 0, 1) := by decide +kernel
theorem dX7_canBe_1 : decode cX7_canBe 1 = .ok (.getfield 128, 3) := by decide +kernel
theorem dX7_canBe_4 : decode cX7_canBe 4 = .ok (.ifCond .ne 66, 3) := by decide +kernel
theorem dX7_canBe_7 : decode cX7_canBe 7 = .ok (.aload_n 0, 1) := by decide +kernel
theorem dX7_canBe_8 : decode cX7_canBe 8 = .ok (.getfield 50, 3) := by decide +kernel
theorem dX7_canBe_11 : decode cX7_canBe 11 = .ok (.aload_n 0, 1) := by decide +kernel
theorem dX7_canBe_12 : decode cX7_canBe 12 = .ok (.getfield 38, 3) := by decide +kernel
theorem dX7_canBe_15 : decode cX7_canBe 15 = .ok (.aload_n 0, 1) := by decide +kernel
theorem dX7_canBe_16 : decode cX7_canBe 16 = .ok (.getfield 38, 3) := by decide +kernel
theorem dX7_canBe_19 : decode cX7_canBe 19 = .ok (.getfield 189, 3) := by decide +kernel
theorem dX7_canBe_22 : decode cX7_canBe 22 = .ok (.aload_n 0, 1) := by decide +kernel
theorem dX7_canBe_23 : decode cX7_canBe 23 = .ok (.getfield 38, 3) := by decide +kernel
theorem dX7_canBe_26 : decode cX7_canBe 26 = .ok (.getfield 192, 3) := by decide +kernel
theorem dX7_canBe_29 : decode cX7_canBe 29 = .ok (.invokevirtual 195, 3) := by decide +kernel
theorem dX7_canBe_32 : decode cX7_canBe 32 = .ok (.aload_n 0, 1) := by decide +kernel
theorem dX7_canBe_33 : decode cX7_canBe 33 = .ok (.getfield 50, 3) := by decide +kernel
theorem dX7_canBe_36 : decode cX7_canBe 36 = .ok (.aload_n 0, 1) := by decide +kernel
theorem dX7_canBe_37 : decode cX7_canBe 37 = .ok (.getfield 60, 3) := by decide +kernel
theorem dX7_canBe_40 : decode cX7_canBe 40 = .ok (.iconst 0, 1) := by decide +kernel
theorem dX7_canBe_41 : decode cX7_canBe 41 = .ok (.invokevirtual 198, 3) := by decide +kernel
theorem dX7_canBe_44 : decode cX7_canBe 44 = .ok (.aload_n 0, 1) := by decide +kernel
theorem dX7_canBe_45 : decode cX7_canBe 45 = .ok (.aload_n 0, 1) := by decide +kernel
theorem dX7_canBe_46 : decode cX7_canBe 46 = .ok (.getfield 31, 3) := by decide +kernel
theorem dX7_canBe_49 : decode cX7_canBe 49 = .ok (.aload_n 0, 1) := by decide +kernel
theorem dX7_canBe_50 : decode cX7_canBe 50 = .ok (.getfield 50, 3) := by decide +kernel
theorem dX7_canBe_53 : decode cX7_canBe 53 = .ok (.iconst 1, 1) := by decide +kernel
theorem dX7_canBe_54 : decode cX7_canBe 54 = .ok (.invokevirtual 201, 3) := by decide +kernel
theorem dX7_canBe_57 : decode cX7_canBe 57 = .ok (.putfield 183, 3) := by decide +kernel
theorem dX7_canBe_60 : decode cX7_canBe 60 = .ok (.aload_n 0, 1) := by decide +kernel
theorem dX7_canBe_61 : decode cX7_canBe 61 = .ok (.iconst 1, 1) := by decide +kernel
theorem dX7_canBe_62 : decode cX7_canBe 62 = .ok (.putfield 128, 3) := by decide +kernel
theorem dX7_canBe_65 : decode cX7_canBe 65 = .ok (.aload_n 0, 1) := by decide +kernel
theorem dX7_canBe_66 : decode cX7_canBe 66 = .ok (.iconst 0, 1) := by decide +kernel
theorem dX7_canBe_67 : decode cX7_canBe 67 = .ok (.putfield 366, 3) := by decide +kernel
theorem dX7_canBe_70 : decode cX7_canBe 70 = .ok (.aload_n 0, 1) := by decide +kernel
theorem dX7_canBe_71 : decode cX7_canBe 71 = .ok (.getfield 183, 3) := by decide +kernel
theorem dX7_canBe_74 : decode cX7_canBe 74 = .ok (.bipush (-9), 2) := by decide +kernel
theorem dX7_canBe_76 : decode cX7_canBe 76 = .ok (.if_icmp .ne 7, 3) := by decide +kernel
theorem dX7_canBe_79 : decode cX7_canBe 79 = .ok (.iconst 1, 1) := by decide +kernel
theorem dX7_canBe_80 : decode cX7_canBe 80 = .ok (.goto 4, 3) := by decide +kernel
theorem dX7_canBe_83 : decode cX7_canBe 83 = .ok (.iconst 0, 1) := by decide +kernel
theorem dX7_canBe_84 : decode cX7_canBe 84 = .ok (.ireturn, 1) := by decide +kernel
theorem dX7_knowsWays_0 : decode cX7_knowsWays 0 = .ok (.aload_n 0, 1) := by decide +kernel
theorem dX7_knowsWays_1 : decode cX7_knowsWays 1 = .ok (.invokevirtual 179, 3) := by decide +kernel
theorem dX7_knowsWays_4 : decode cX7_knowsWays 4 = .ok (.ifCond .ne 5, 3) := by decide +kernel
theorem dX7_knowsWays_7 : decode cX7_knowsWays 7 = .ok (.iconst 0, 1) := by decide +kernel
theorem dX7_knowsWays_8 : decode cX7_knowsWays 8 = .ok (.ireturn, 1) := by decide +kernel
theorem dX7_knowsWays_9 : decode cX7_knowsWays 9 = .ok (.aload_n 0, 1) := by decide +kernel
theorem dX7_knowsWays_10 : decode cX7_knowsWays 10 = .ok (.getfield 366, 3) := by decide +kernel
theorem dX7_knowsWays_13 : decode cX7_knowsWays 13 = .ok (.ifCond .ne 14, 3) := by decide +kernel
theorem dX7_knowsWays_16 : decode cX7_knowsWays 16 = .ok (.aload_n 0, 1) := by decide +kernel
theorem dX7_knowsWays_17 : decode cX7_knowsWays 17 = .ok (.getfield 31, 3) := by decide +kernel
theorem dX7_knowsWays_20 : decode cX7_knowsWays 20 = .ok (.aload_n 0, 1) := by decide +kernel
theorem dX7_knowsWays_21 : decode cX7_knowsWays 21 = .ok (.getfield 50, 3) := by decide +kernel
theorem dX7_knowsWays_24 : decode cX7_knowsWays 24 = .ok (.invokevirtual 369, 3) := by decide +kernel
theorem dX7_knowsWays_27 : decode cX7_knowsWays 27 = .ok (.aload_n 0, 1) := by decide +kernel
theorem dX7_knowsWays_28 : decode cX7_knowsWays 28 = .ok (.iconst 1, 1) := by decide +kernel
theorem dX7_knowsWays_29 : decode cX7_knowsWays 29 = .ok (.putfield 366, 3) := by decide +kernel
theorem dX7_knowsWays_32 : decode cX7_knowsWays 32 = .ok (.iconst 1, 1) := by decide +kernel
theorem dX7_knowsWays_33 : decode cX7_knowsWays 33 = .ok (.ireturn, 1) := by decide +kernel
theorem dX7_leastBy_0 : decode cX7_leastBy 0 = .ok (.aload_n 0, 1) := by decide +kernel
theorem dX7_leastBy_1 : decode cX7_leastBy 1 = .ok (.getfield 54, 3) := by decide +kernel
theorem dX7_leastBy_4 : decode cX7_leastBy 4 = .ok (.aload_n 0, 1) := by decide +kernel
theorem dX7_leastBy_5 : decode cX7_leastBy 5 = .ok (.getfield 38, 3) := by decide +kernel
theorem dX7_leastBy_8 : decode cX7_leastBy 8 = .ok (.iload_n 1, 1) := by decide +kernel
theorem dX7_leastBy_9 : decode cX7_leastBy 9 = .ok (.iconst 0, 1) := by decide +kernel
theorem dX7_leastBy_10 : decode cX7_leastBy 10 = .ok (.invokevirtual 195, 3) := by decide +kernel
theorem dX7_leastBy_13 : decode cX7_leastBy 13 = .ok (.aload_n 0, 1) := by decide +kernel
theorem dX7_leastBy_14 : decode cX7_leastBy 14 = .ok (.getfield 54, 3) := by decide +kernel
theorem dX7_leastBy_17 : decode cX7_leastBy 17 = .ok (.aload_n 0, 1) := by decide +kernel
theorem dX7_leastBy_18 : decode cX7_leastBy 18 = .ok (.getfield 60, 3) := by decide +kernel
theorem dX7_leastBy_21 : decode cX7_leastBy 21 = .ok (.iconst 0, 1) := by decide +kernel
theorem dX7_leastBy_22 : decode cX7_leastBy 22 = .ok (.invokevirtual 198, 3) := by decide +kernel
theorem dX7_leastBy_25 : decode cX7_leastBy 25 = .ok (.aload_n 0, 1) := by decide +kernel
theorem dX7_leastBy_26 : decode cX7_leastBy 26 = .ok (.getfield 31, 3) := by decide +kernel
theorem dX7_leastBy_29 : decode cX7_leastBy 29 = .ok (.aload_n 0, 1) := by decide +kernel
theorem dX7_leastBy_30 : decode cX7_leastBy 30 = .ok (.getfield 54, 3) := by decide +kernel
theorem dX7_leastBy_33 : decode cX7_leastBy 33 = .ok (.iload_n 2, 1) := by decide +kernel
theorem dX7_leastBy_34 : decode cX7_leastBy 34 = .ok (.iload_n 3, 1) := by decide +kernel
theorem dX7_leastBy_35 : decode cX7_leastBy 35 = .ok (.invokevirtual 373, 3) := by decide +kernel
theorem dX7_leastBy_38 : decode cX7_leastBy 38 = .ok (.lreturn, 1) := by decide +kernel
theorem dX7_stuckSince_0 : decode cX7_stuckSince 0 = .ok (.aload_n 0, 1) := by decide +kernel
theorem dX7_stuckSince_1 : decode cX7_stuckSince 1 = .ok (.getfield 54, 3) := by decide +kernel
theorem dX7_stuckSince_4 : decode cX7_stuckSince 4 = .ok (.aload_n 0, 1) := by decide +kernel
theorem dX7_stuckSince_5 : decode cX7_stuckSince 5 = .ok (.getfield 38, 3) := by decide +kernel
theorem dX7_stuckSince_8 : decode cX7_stuckSince 8 = .ok (.aload_n 0, 1) := by decide +kernel
theorem dX7_stuckSince_9 : decode cX7_stuckSince 9 = .ok (.getfield 38, 3) := by decide +kernel
theorem dX7_stuckSince_12 : decode cX7_stuckSince 12 = .ok (.getfield 189, 3) := by decide +kernel
theorem dX7_stuckSince_15 : decode cX7_stuckSince 15 = .ok (.aload_n 0, 1) := by decide +kernel
theorem dX7_stuckSince_16 : decode cX7_stuckSince 16 = .ok (.getfield 38, 3) := by decide +kernel
theorem dX7_stuckSince_19 : decode cX7_stuckSince 19 = .ok (.getfield 192, 3) := by decide +kernel
theorem dX7_stuckSince_22 : decode cX7_stuckSince 22 = .ok (.iconst 1, 1) := by decide +kernel
theorem dX7_stuckSince_23 : decode cX7_stuckSince 23 = .ok (.iload_n 1, 1) := by decide +kernel
theorem dX7_stuckSince_24 : decode cX7_stuckSince 24 = .ok (.ishl, 1) := by decide +kernel
theorem dX7_stuckSince_25 : decode cX7_stuckSince 25 = .ok (.iconst (-1), 1) := by decide +kernel
theorem dX7_stuckSince_26 : decode cX7_stuckSince 26 = .ok (.ixor, 1) := by decide +kernel
theorem dX7_stuckSince_27 : decode cX7_stuckSince 27 = .ok (.iand, 1) := by decide +kernel
theorem dX7_stuckSince_28 : decode cX7_stuckSince 28 = .ok (.invokevirtual 195, 3) := by decide +kernel
theorem dX7_stuckSince_31 : decode cX7_stuckSince 31 = .ok (.aload_n 0, 1) := by decide +kernel
theorem dX7_stuckSince_32 : decode cX7_stuckSince 32 = .ok (.getfield 54, 3) := by decide +kernel
theorem dX7_stuckSince_35 : decode cX7_stuckSince 35 = .ok (.aload_n 0, 1) := by decide +kernel
theorem dX7_stuckSince_36 : decode cX7_stuckSince 36 = .ok (.getfield 60, 3) := by decide +kernel
theorem dX7_stuckSince_39 : decode cX7_stuckSince 39 = .ok (.iconst 0, 1) := by decide +kernel
theorem dX7_stuckSince_40 : decode cX7_stuckSince 40 = .ok (.invokevirtual 198, 3) := by decide +kernel
theorem dX7_stuckSince_43 : decode cX7_stuckSince 43 = .ok (.iconst 0, 1) := by decide +kernel
theorem dX7_stuckSince_44 : decode cX7_stuckSince 44 = .ok (.istore_n 2, 1) := by decide +kernel
theorem dX7_stuckSince_45 : decode cX7_stuckSince 45 = .ok (.iconst 0, 1) := by decide +kernel
theorem dX7_stuckSince_46 : decode cX7_stuckSince 46 = .ok (.istore_n 3, 1) := by decide +kernel
theorem dX7_stuckSince_47 : decode cX7_stuckSince 47 = .ok (.iload_n 3, 1) := by decide +kernel
theorem dX7_stuckSince_48 : decode cX7_stuckSince 48 = .ok (.aload_n 0, 1) := by decide +kernel
theorem dX7_stuckSince_49 : decode cX7_stuckSince 49 = .ok (.getfield 38, 3) := by decide +kernel
theorem dX7_stuckSince_52 : decode cX7_stuckSince 52 = .ok (.getfield 208, 3) := by decide +kernel
theorem dX7_stuckSince_55 : decode cX7_stuckSince 55 = .ok (.if_icmp .ge 29, 3) := by decide +kernel
theorem dX7_stuckSince_58 : decode cX7_stuckSince 58 = .ok (.aload_n 0, 1) := by decide +kernel
theorem dX7_stuckSince_59 : decode cX7_stuckSince 59 = .ok (.getfield 54, 3) := by decide +kernel
theorem dX7_stuckSince_62 : decode cX7_stuckSince 62 = .ok (.getfield 376, 3) := by decide +kernel
theorem dX7_stuckSince_65 : decode cX7_stuckSince 65 = .ok (.iload_n 3, 1) := by decide +kernel
theorem dX7_stuckSince_66 : decode cX7_stuckSince 66 = .ok (.iaload, 1) := by decide +kernel
theorem dX7_stuckSince_67 : decode cX7_stuckSince 67 = .ok (.iload_n 1, 1) := by decide +kernel
theorem dX7_stuckSince_68 : decode cX7_stuckSince 68 = .ok (.ishr, 1) := by decide +kernel
theorem dX7_stuckSince_69 : decode cX7_stuckSince 69 = .ok (.iconst 1, 1) := by decide +kernel
theorem dX7_stuckSince_70 : decode cX7_stuckSince 70 = .ok (.iand, 1) := by decide +kernel
theorem dX7_stuckSince_71 : decode cX7_stuckSince 71 = .ok (.ifCond .eq 7, 3) := by decide +kernel
theorem dX7_stuckSince_74 : decode cX7_stuckSince 74 = .ok (.iload_n 3, 1) := by decide +kernel
theorem dX7_stuckSince_75 : decode cX7_stuckSince 75 = .ok (.iconst 1, 1) := by decide +kernel
theorem dX7_stuckSince_76 : decode cX7_stuckSince 76 = .ok (.iadd, 1) := by decide +kernel
theorem dX7_stuckSince_77 : decode cX7_stuckSince 77 = .ok (.istore_n 2, 1) := by decide +kernel
theorem dX7_stuckSince_78 : decode cX7_stuckSince 78 = .ok (.iinc 3 1, 3) := by decide +kernel
theorem dX7_stuckSince_81 : decode cX7_stuckSince 81 = .ok (.goto (-34), 3) := by decide +kernel
theorem dX7_stuckSince_84 : decode cX7_stuckSince 84 = .ok (.aload_n 0, 1) := by decide +kernel
theorem dX7_stuckSince_85 : decode cX7_stuckSince 85 = .ok (.getfield 31, 3) := by decide +kernel
theorem dX7_stuckSince_88 : decode cX7_stuckSince 88 = .ok (.aload_n 0, 1) := by decide +kernel
theorem dX7_stuckSince_89 : decode cX7_stuckSince 89 = .ok (.getfield 54, 3) := by decide +kernel
theorem dX7_stuckSince_92 : decode cX7_stuckSince 92 = .ok (.iload_n 2, 1) := by decide +kernel
theorem dX7_stuckSince_93 : decode cX7_stuckSince 93 = .ok (.aload_n 0, 1) := by decide +kernel
theorem dX7_stuckSince_94 : decode cX7_stuckSince 94 = .ok (.getfield 183, 3) := by decide +kernel
theorem dX7_stuckSince_97 : decode cX7_stuckSince 97 = .ok (.invokevirtual 379, 3) := by decide +kernel
theorem dX7_stuckSince_100 : decode cX7_stuckSince 100 = .ok (.ireturn, 1) := by decide +kernel
theorem dX7_isPrice_0 : decode cX7_isPrice 0 = .ok (.iload_n 0, 1) := by decide +kernel
theorem dX7_isPrice_1 : decode cX7_isPrice 1 = .ok (.ifCond .lt 13, 3) := by decide +kernel
theorem dX7_isPrice_4 : decode cX7_isPrice 4 = .ok (.iload_n 0, 1) := by decide +kernel
theorem dX7_isPrice_5 : decode cX7_isPrice 5 = .ok (.bipush 99, 2) := by decide +kernel
theorem dX7_isPrice_7 : decode cX7_isPrice 7 = .ok (.if_icmp .gt 7, 3) := by decide +kernel
theorem dX7_isPrice_10 : decode cX7_isPrice 10 = .ok (.iconst 1, 1) := by decide +kernel
theorem dX7_isPrice_11 : decode cX7_isPrice 11 = .ok (.goto 4, 3) := by decide +kernel
theorem dX7_isPrice_14 : decode cX7_isPrice 14 = .ok (.iconst 0, 1) := by decide +kernel
theorem dX7_isPrice_15 : decode cX7_isPrice 15 = .ok (.ireturn, 1) := by decide +kernel
theorem dX7_roomBit_0 : decode cX7_roomBit 0 = .ok (.iconst 1, 1) := by decide +kernel
theorem dX7_roomBit_1 : decode cX7_roomBit 1 = .ok (.bipush 6, 2) := by decide +kernel
theorem dX7_roomBit_3 : decode cX7_roomBit 3 = .ok (.iload_n 0, 1) := by decide +kernel
theorem dX7_roomBit_4 : decode cX7_roomBit 4 = .ok (.imul, 1) := by decide +kernel
theorem dX7_roomBit_5 : decode cX7_roomBit 5 = .ok (.iload_n 1, 1) := by decide +kernel
theorem dX7_roomBit_6 : decode cX7_roomBit 6 = .ok (.iadd, 1) := by decide +kernel
theorem dX7_roomBit_7 : decode cX7_roomBit 7 = .ok (.ishl, 1) := by decide +kernel
theorem dX7_roomBit_8 : decode cX7_roomBit 8 = .ok (.ireturn, 1) := by decide +kernel
theorem dX7_roomsOf_0 : decode cX7_roomsOf 0 = .ok (.iload_n 0, 1) := by decide +kernel
theorem dX7_roomsOf_1 : decode cX7_roomsOf 1 = .ok (.bipush 6, 2) := by decide +kernel
theorem dX7_roomsOf_3 : decode cX7_roomsOf 3 = .ok (.iload_n 1, 1) := by decide +kernel
theorem dX7_roomsOf_4 : decode cX7_roomsOf 4 = .ok (.imul, 1) := by decide +kernel
theorem dX7_roomsOf_5 : decode cX7_roomsOf 5 = .ok (.ishr, 1) := by decide +kernel
theorem dX7_roomsOf_6 : decode cX7_roomsOf 6 = .ok (.bipush 63, 2) := by decide +kernel
theorem dX7_roomsOf_8 : decode cX7_roomsOf 8 = .ok (.iand, 1) := by decide +kernel
theorem dX7_roomsOf_9 : decode cX7_roomsOf 9 = .ok (.ireturn, 1) := by decide +kernel
theorem dX7_walkersIn_0 : decode cX7_walkersIn 0 = .ok (.iconst 0, 1) := by decide +kernel
theorem dX7_walkersIn_1 : decode cX7_walkersIn 1 = .ok (.istore_n 2, 1) := by decide +kernel
theorem dX7_walkersIn_2 : decode cX7_walkersIn 2 = .ok (.iconst 0, 1) := by decide +kernel
theorem dX7_walkersIn_3 : decode cX7_walkersIn 3 = .ok (.istore_n 3, 1) := by decide +kernel
theorem dX7_walkersIn_4 : decode cX7_walkersIn 4 = .ok (.iload_n 3, 1) := by decide +kernel
theorem dX7_walkersIn_5 : decode cX7_walkersIn 5 = .ok (.iconst 3, 1) := by decide +kernel
theorem dX7_walkersIn_6 : decode cX7_walkersIn 6 = .ok (.if_icmp .ge 24, 3) := by decide +kernel
theorem dX7_walkersIn_9 : decode cX7_walkersIn 9 = .ok (.iload_n 2, 1) := by decide +kernel
theorem dX7_walkersIn_10 : decode cX7_walkersIn 10 = .ok (.iload_n 0, 1) := by decide +kernel
theorem dX7_walkersIn_11 : decode cX7_walkersIn 11 = .ok (.bipush 6, 2) := by decide +kernel
theorem dX7_walkersIn_13 : decode cX7_walkersIn 13 = .ok (.iload_n 3, 1) := by decide +kernel
theorem dX7_walkersIn_14 : decode cX7_walkersIn 14 = .ok (.imul, 1) := by decide +kernel
theorem dX7_walkersIn_15 : decode cX7_walkersIn 15 = .ok (.iload_n 1, 1) := by decide +kernel
theorem dX7_walkersIn_16 : decode cX7_walkersIn 16 = .ok (.iadd, 1) := by decide +kernel
theorem dX7_walkersIn_17 : decode cX7_walkersIn 17 = .ok (.ishr, 1) := by decide +kernel
theorem dX7_walkersIn_18 : decode cX7_walkersIn 18 = .ok (.iconst 1, 1) := by decide +kernel
theorem dX7_walkersIn_19 : decode cX7_walkersIn 19 = .ok (.iand, 1) := by decide +kernel
theorem dX7_walkersIn_20 : decode cX7_walkersIn 20 = .ok (.iload_n 3, 1) := by decide +kernel
theorem dX7_walkersIn_21 : decode cX7_walkersIn 21 = .ok (.ishl, 1) := by decide +kernel
theorem dX7_walkersIn_22 : decode cX7_walkersIn 22 = .ok (.ior, 1) := by decide +kernel
theorem dX7_walkersIn_23 : decode cX7_walkersIn 23 = .ok (.istore_n 2, 1) := by decide +kernel
theorem dX7_walkersIn_24 : decode cX7_walkersIn 24 = .ok (.iinc 3 1, 3) := by decide +kernel
theorem dX7_walkersIn_27 : decode cX7_walkersIn 27 = .ok (.goto (-23), 3) := by decide +kernel
theorem dX7_walkersIn_30 : decode cX7_walkersIn 30 = .ok (.iload_n 2, 1) := by decide +kernel
theorem dX7_walkersIn_31 : decode cX7_walkersIn 31 = .ok (.ireturn, 1) := by decide +kernel
theorem dX7_capped_0 : decode cX7_capped 0 = .ok (.lload_n 0, 1) := by decide +kernel
theorem dX7_capped_1 : decode cX7_capped 1 = .ok (.ldc2_w 382, 3) := by decide +kernel
theorem dX7_capped_4 : decode cX7_capped 4 = .ok (.lcmp, 1) := by decide +kernel
theorem dX7_capped_5 : decode cX7_capped 5 = .ok (.ifCond .le 9, 3) := by decide +kernel
theorem dX7_capped_8 : decode cX7_capped 8 = .ok (.ldc2_w 382, 3) := by decide +kernel
theorem dX7_capped_11 : decode cX7_capped 11 = .ok (.goto 4, 3) := by decide +kernel
theorem dX7_capped_14 : decode cX7_capped 14 = .ok (.lload_n 0, 1) := by decide +kernel
theorem dX7_capped_15 : decode cX7_capped 15 = .ok (.lreturn, 1) := by decide +kernel
