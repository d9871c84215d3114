theorem dX5_jump_59 : decode cX5_jump 59 = .ok (.aload 4, 2) := by decide +kernel
theorem dX5_jump_61 : decode cX5_jump 61 = .ok (.getfield 124, 3) := by decide +kernel
theorem dX5_jump_64 : decode cX5_jump 64 = .ok (.putfield 268, 3) := by decide +kernel
theorem dX5_jump_67 : decode cX5_jump 67 = .ok (.aload_n 0, 1) := by decide +kernel
theorem dX5_jump_68 : decode cX5_jump 68 = .ok (.getfield 43, 3) := by decide +kernel
theorem dX5_jump_71 : decode cX5_jump 71 = .ok (.iconst 3, 1) := by decide +kernel
theorem dX5_jump_72 : decode cX5_jump 72 = .ok (.dup2, 1) := by decide +kernel
theorem dX5_jump_73 : decode cX5_jump 73 = .ok (.laload, 1) := by decide +kernel
theorem dX5_jump_74 : decode cX5_jump 74 = .ok (.lconst 1, 1) := by decide +kernel
theorem dX5_jump_75 : decode cX5_jump 75 = .ok (.ladd, 1) := by decide +kernel
theorem dX5_jump_76 : decode cX5_jump 76 = .ok (.lastore, 1) := by decide +kernel
theorem dX5_jump_77 : decode cX5_jump 77 = .ok (.return_, 1) := by decide +kernel
theorem dX5_send_0 : decode cX5_send 0 = .ok (.aload_n 1, 1) := by decide +kernel
theorem dX5_send_1 : decode cX5_send 1 = .ok (.aload_n 2, 1) := by decide +kernel
theorem dX5_send_2 : decode cX5_send 2 = .ok (.getfield 299, 3) := by decide +kernel
theorem dX5_send_5 : decode cX5_send 5 = .ok (.invokevirtual 296, 3) := by decide +kernel
theorem dX5_send_8 : decode cX5_send 8 = .ok (.ifCond .eq 9, 3) := by decide +kernel
theorem dX5_send_11 : decode cX5_send 11 = .ok (.aload_n 0, 1) := by decide +kernel
theorem dX5_send_12 : decode cX5_send 12 = .ok (.iconst 1, 1) := by decide +kernel
theorem dX5_send_13 : decode cX5_send 13 = .ok (.putfield 165, 3) := by decide +kernel
theorem dX5_send_16 : decode cX5_send 16 = .ok (.return_, 1) := by decide +kernel
theorem dX5_send_17 : decode cX5_send 17 = .ok (.aload_n 1, 1) := by decide +kernel
theorem dX5_send_18 : decode cX5_send 18 = .ok (.getfield 292, 3) := by decide +kernel
theorem dX5_send_21 : decode cX5_send 21 = .ok (.aload_n 2, 1) := by decide +kernel
theorem dX5_send_22 : decode cX5_send 22 = .ok (.getfield 299, 3) := by decide +kernel
theorem dX5_send_25 : decode cX5_send 25 = .ok (.iaload, 1) := by decide +kernel
theorem dX5_send_26 : decode cX5_send 26 = .ok (.istore_n 3, 1) := by decide +kernel
theorem dX5_send_27 : decode cX5_send 27 = .ok (.aload_n 0, 1) := by decide +kernel
theorem dX5_send_28 : decode cX5_send 28 = .ok (.getfield 10, 3) := by decide +kernel
theorem dX5_send_31 : decode cX5_send 31 = .ok (.iload_n 3, 1) := by decide +kernel
theorem dX5_send_32 : decode cX5_send 32 = .ok (.aload_n 2, 1) := by decide +kernel
theorem dX5_send_33 : decode cX5_send 33 = .ok (.getfield 275, 3) := by decide +kernel
theorem dX5_send_36 : decode cX5_send 36 = .ok (.invokevirtual 134, 3) := by decide +kernel
theorem dX5_send_39 : decode cX5_send 39 = .ok (.istore 4, 2) := by decide +kernel
theorem dX5_send_41 : decode cX5_send 41 = .ok (.iload 4, 2) := by decide +kernel
theorem dX5_send_43 : decode cX5_send 43 = .ok (.iconst (-1), 1) := by decide +kernel
theorem dX5_send_44 : decode cX5_send 44 = .ok (.if_icmp .ne 9, 3) := by decide +kernel
theorem dX5_send_47 : decode cX5_send 47 = .ok (.aload_n 0, 1) := by decide +kernel
theorem dX5_send_48 : decode cX5_send 48 = .ok (.iconst 2, 1) := by decide +kernel
theorem dX5_send_49 : decode cX5_send 49 = .ok (.putfield 165, 3) := by decide +kernel
theorem dX5_send_52 : decode cX5_send 52 = .ok (.return_, 1) := by decide +kernel
theorem dX5_send_53 : decode cX5_send 53 = .ok (.aload_n 0, 1) := by decide +kernel
theorem dX5_send_54 : decode cX5_send 54 = .ok (.dup, 1) := by decide +kernel
theorem dX5_send_55 : decode cX5_send 55 = .ok (.getfield 171, 3) := by decide +kernel
theorem dX5_send_58 : decode cX5_send 58 = .ok (.aload_n 0, 1) := by decide +kernel
theorem dX5_send_59 : decode cX5_send 59 = .ok (.aload_n 1, 1) := by decide +kernel
theorem dX5_send_60 : decode cX5_send 60 = .ok (.aload_n 2, 1) := by decide +kernel
theorem dX5_send_61 : decode cX5_send 61 = .ok (.iload_n 3, 1) := by decide +kernel
theorem dX5_send_62 : decode cX5_send 62 = .ok (.invokevirtual 302, 3) := by decide +kernel
theorem dX5_send_65 : decode cX5_send 65 = .ok (.i2l, 1) := by decide +kernel
theorem dX5_send_66 : decode cX5_send 66 = .ok (.ladd, 1) := by decide +kernel
theorem dX5_send_67 : decode cX5_send 67 = .ok (.putfield 171, 3) := by decide +kernel
theorem dX5_send_70 : decode cX5_send 70 = .ok (.aload_n 0, 1) := by decide +kernel
theorem dX5_send_71 : decode cX5_send 71 = .ok (.getfield 158, 3) := by decide +kernel
theorem dX5_send_74 : decode cX5_send 74 = .ok (.bipush 20, 2) := by decide +kernel
theorem dX5_send_76 : decode cX5_send 76 = .ok (.if_icmp .lt 9, 3) := by decide +kernel
theorem dX5_send_79 : decode cX5_send 79 = .ok (.aload_n 0, 1) := by decide +kernel
theorem dX5_send_80 : decode cX5_send 80 = .ok (.iconst 3, 1) := by decide +kernel
theorem dX5_send_81 : decode cX5_send 81 = .ok (.putfield 165, 3) := by decide +kernel
theorem dX5_send_84 : decode cX5_send 84 = .ok (.return_, 1) := by decide +kernel
theorem dX5_send_85 : decode cX5_send 85 = .ok (.aload_n 1, 1) := by decide +kernel
theorem dX5_send_86 : decode cX5_send 86 = .ok (.dup, 1) := by decide +kernel
theorem dX5_send_87 : decode cX5_send 87 = .ok (.getfield 256, 3) := by decide +kernel
theorem dX5_send_90 : decode cX5_send 90 = .ok (.iconst 1, 1) := by decide +kernel
theorem dX5_send_91 : decode cX5_send 91 = .ok (.iadd, 1) := by decide +kernel
theorem dX5_send_92 : decode cX5_send 92 = .ok (.putfield 256, 3) := by decide +kernel
theorem dX5_send_95 : decode cX5_send 95 = .ok (.aload_n 1, 1) := by decide +kernel
theorem dX5_send_96 : decode cX5_send 96 = .ok (.aload_n 2, 1) := by decide +kernel
theorem dX5_send_97 : decode cX5_send 97 = .ok (.getfield 272, 3) := by decide +kernel
theorem dX5_send_100 : decode cX5_send 100 = .ok (.putfield 262, 3) := by decide +kernel
theorem dX5_send_103 : decode cX5_send 103 = .ok (.aload_n 0, 1) := by decide +kernel
theorem dX5_send_104 : decode cX5_send 104 = .ok (.iload 4, 2) := by decide +kernel
theorem dX5_send_106 : decode cX5_send 106 = .ok (.invokevirtual 148, 3) := by decide +kernel
theorem dX5_send_109 : decode cX5_send 109 = .ok (.astore 5, 2) := by decide +kernel
theorem dX5_send_111 : decode cX5_send 111 = .ok (.aload 5, 2) := by decide +kernel
theorem dX5_send_113 : decode cX5_send 113 = .ok (.iconst 0, 1) := by decide +kernel
theorem dX5_send_114 : decode cX5_send 114 = .ok (.aload_n 1, 1) := by decide +kernel
theorem dX5_send_115 : decode cX5_send 115 = .ok (.getfield 289, 3) := by decide +kernel
theorem dX5_send_118 : decode cX5_send 118 = .ok (.aload_n 2, 1) := by decide +kernel
theorem dX5_send_119 : decode cX5_send 119 = .ok (.getfield 306, 3) := by decide +kernel
theorem dX5_send_122 : decode cX5_send 122 = .ok (.iaload, 1) := by decide +kernel
theorem dX5_send_123 : decode cX5_send 123 = .ok (.aload_n 1, 1) := by decide +kernel
theorem dX5_send_124 : decode cX5_send 124 = .ok (.getfield 292, 3) := by decide +kernel
theorem dX5_send_127 : decode cX5_send 127 = .ok (.aload_n 2, 1) := by decide +kernel
theorem dX5_send_128 : decode cX5_send 128 = .ok (.getfield 306, 3) := by decide +kernel
theorem dX5_send_131 : decode cX5_send 131 = .ok (.iaload, 1) := by decide +kernel
theorem dX5_send_132 : decode cX5_send 132 = .ok (.invokevirtual 265, 3) := by decide +kernel
theorem dX5_send_135 : decode cX5_send 135 = .ok (.aload 5, 2) := by decide +kernel
theorem dX5_send_137 : decode cX5_send 137 = .ok (.iconst 1, 1) := by decide +kernel
theorem dX5_send_138 : decode cX5_send 138 = .ok (.iconst 0, 1) := by decide +kernel
theorem dX5_send_139 : decode cX5_send 139 = .ok (.iload_n 3, 1) := by decide +kernel
theorem dX5_send_140 : decode cX5_send 140 = .ok (.invokevirtual 265, 3) := by decide +kernel
theorem dX5_send_143 : decode cX5_send 143 = .ok (.return_, 1) := by decide +kernel
theorem dX5_findingCost_0 : decode cX5_findingCost 0 = .ok (.aload_n 0, 1) := by decide +kernel
theorem dX5_findingCost_1 : decode cX5_findingCost 1 = .ok (.getfield 10, 3) := by decide +kernel
theorem dX5_findingCost_4 : decode cX5_findingCost 4 = .ok (.iload_n 3, 1) := by decide +kernel
theorem dX5_findingCost_5 : decode cX5_findingCost 5 = .ok (.aload_n 2, 1) := by decide +kernel
theorem dX5_findingCost_6 : decode cX5_findingCost 6 = .ok (.getfield 275, 3) := by decide +kernel
theorem dX5_findingCost_9 : decode cX5_findingCost 9 = .ok (.invokevirtual 309, 3) := by decide +kernel
theorem dX5_findingCost_12 : decode cX5_findingCost 12 = .ok (.istore 4, 2) := by decide +kernel
theorem dX5_findingCost_14 : decode cX5_findingCost 14 = .ok (.aload_n 1, 1) := by decide +kernel
theorem dX5_findingCost_15 : decode cX5_findingCost 15 = .ok (.getfield 268, 3) := by decide +kernel
theorem dX5_findingCost_18 : decode cX5_findingCost 18 = .ok (.iconst 2, 1) := by decide +kernel
theorem dX5_findingCost_19 : decode cX5_findingCost 19 = .ok (.if_icmp .eq 14, 3) := by decide +kernel
theorem dX5_findingCost_22 : decode cX5_findingCost 22 = .ok (.aload_n 2, 1) := by decide +kernel
theorem dX5_findingCost_23 : decode cX5_findingCost 23 = .ok (.getfield 223, 3) := by decide +kernel
theorem dX5_findingCost_26 : decode cX5_findingCost 26 = .ok (.iload_n 3, 1) := by decide +kernel
theorem dX5_findingCost_27 : decode cX5_findingCost 27 = .ok (.invokevirtual 312, 3) := by decide +kernel
theorem dX5_findingCost_30 : decode cX5_findingCost 30 = .ok (.iload 4, 2) := by decide +kernel
theorem dX5_findingCost_32 : decode cX5_findingCost 32 = .ok (.ireturn, 1) := by decide +kernel
theorem dX5_findingCost_33 : decode cX5_findingCost 33 = .ok (.aload_n 2, 1) := by decide +kernel
theorem dX5_findingCost_34 : decode cX5_findingCost 34 = .ok (.getfield 316, 3) := by decide +kernel
theorem dX5_findingCost_37 : decode cX5_findingCost 37 = .ok (.getfield 319, 3) := by decide +kernel
theorem dX5_findingCost_40 : decode cX5_findingCost 40 = .ok (.ifCond .eq 6, 3) := by decide +kernel
theorem dX5_findingCost_43 : decode cX5_findingCost 43 = .ok (.iload 4, 2) := by decide +kernel
theorem dX5_findingCost_45 : decode cX5_findingCost 45 = .ok (.ireturn, 1) := by decide +kernel
theorem dX5_findingCost_46 : decode cX5_findingCost 46 = .ok (.aload_n 2, 1) := by decide +kernel
theorem dX5_findingCost_47 : decode cX5_findingCost 47 = .ok (.getfield 316, 3) := by decide +kernel
theorem dX5_findingCost_50 : decode cX5_findingCost 50 = .ok (.iload_n 3, 1) := by decide +kernel
theorem dX5_findingCost_51 : decode cX5_findingCost 51 = .ok (.invokevirtual 323, 3) := by decide +kernel
theorem dX5_findingCost_54 : decode cX5_findingCost 54 = .ok (.istore 5, 2) := by decide +kernel
theorem dX5_findingCost_56 : decode cX5_findingCost 56 = .ok (.iload 5, 2) := by decide +kernel
theorem dX5_findingCost_58 : decode cX5_findingCost 58 = .ok (.iconst (-1), 1) := by decide +kernel
theorem dX5_findingCost_59 : decode cX5_findingCost 59 = .ok (.if_icmp .eq 6, 3) := by decide +kernel
theorem dX5_findingCost_62 : decode cX5_findingCost 62 = .ok (.iload 5, 2) := by decide +kernel
theorem dX5_findingCost_64 : decode cX5_findingCost 64 = .ok (.ireturn, 1) := by decide +kernel
theorem dX5_findingCost_65 : decode cX5_findingCost 65 = .ok (.aload_n 2, 1) := by decide +kernel
theorem dX5_findingCost_66 : decode cX5_findingCost 66 = .ok (.getfield 223, 3) := by decide +kernel
theorem dX5_findingCost_69 : decode cX5_findingCost 69 = .ok (.iload_n 3, 1) := by decide +kernel
theorem dX5_findingCost_70 : decode cX5_findingCost 70 = .ok (.invokevirtual 312, 3) := by decide +kernel
theorem dX5_findingCost_73 : decode cX5_findingCost 73 = .ok (.aload_n 0, 1) := by decide +kernel
theorem dX5_findingCost_74 : decode cX5_findingCost 74 = .ok (.aload_n 1, 1) := by decide +kernel
theorem dX5_findingCost_75 : decode cX5_findingCost 75 = .ok (.getfield 253, 3) := by decide +kernel
theorem dX5_findingCost_78 : decode cX5_findingCost 78 = .ok (.invokevirtual 326, 3) := by decide +kernel
theorem dX5_findingCost_81 : decode cX5_findingCost 81 = .ok (.iload 4, 2) := by decide +kernel
theorem dX5_findingCost_83 : decode cX5_findingCost 83 = .ok (.ireturn, 1) := by decide +kernel
theorem dX5_disappoint_0 : decode cX5_disappoint 0 = .ok (.aload_n 0, 1) := by decide +kernel
theorem dX5_disappoint_1 : decode cX5_disappoint 1 = .ok (.getfield 19, 3) := by decide +kernel
theorem dX5_disappoint_4 : decode cX5_disappoint 4 = .ok (.iload_n 1, 1) := by decide +kernel
theorem dX5_disappoint_5 : decode cX5_disappoint 5 = .ok (.invokevirtual 120, 3) := by decide +kernel
theorem dX5_disappoint_8 : decode cX5_disappoint 8 = .ok (.checkcast 76, 3) := by decide +kernel
theorem dX5_disappoint_11 : decode cX5_disappoint 11 = .ok (.astore_n 2, 1) := by decide +kernel
theorem dX5_disappoint_12 : decode cX5_disappoint 12 = .ok (.aload_n 2, 1) := by decide +kernel
theorem dX5_disappoint_13 : decode cX5_disappoint 13 = .ok (.dup, 1) := by decide +kernel
theorem dX5_disappoint_14 : decode cX5_disappoint 14 = .ok (.getfield 186, 3) := by decide +kernel
theorem dX5_disappoint_17 : decode cX5_disappoint 17 = .ok (.iconst 1, 1) := by decide +kernel
theorem dX5_disappoint_18 : decode cX5_disappoint 18 = .ok (.iadd, 1) := by decide +kernel
theorem dX5_disappoint_19 : decode cX5_disappoint 19 = .ok (.putfield 186, 3) := by decide +kernel
theorem dX5_disappoint_22 : decode cX5_disappoint 22 = .ok (.aload_n 2, 1) := by decide +kernel
theorem dX5_disappoint_23 : decode cX5_disappoint 23 = .ok (.invokevirtual 131, 3) := by decide +kernel
theorem dX5_disappoint_26 : decode cX5_disappoint 26 = .ok (.aload_n 0, 1) := by decide +kernel
theorem dX5_disappoint_27 : decode cX5_disappoint 27 = .ok (.getfield 43, 3) := by decide +kernel
theorem dX5_disappoint_30 : decode cX5_disappoint 30 = .ok (.iconst 2, 1) := by decide +kernel
theorem dX5_disappoint_31 : decode cX5_disappoint 31 = .ok (.dup2, 1) := by decide +kernel
theorem dX5_disappoint_32 : decode cX5_disappoint 32 = .ok (.laload, 1) := by decide +kernel
theorem dX5_disappoint_33 : decode cX5_disappoint 33 = .ok (.lconst 1, 1) := by decide +kernel
theorem dX5_disappoint_34 : decode cX5_disappoint 34 = .ok (.ladd, 1) := by decide +kernel
theorem dX5_disappoint_35 : decode cX5_disappoint 35 = .ok (.lastore, 1) := by decide +kernel
theorem dX5_disappoint_36 : decode cX5_disappoint 36 = .ok (.iconst 0, 1) := by decide +kernel
theorem dX5_disappoint_37 : decode cX5_disappoint 37 = .ok (.istore_n 3, 1) := by decide +kernel
theorem dX5_disappoint_38 : decode cX5_disappoint 38 = .ok (.iload_n 3, 1) := by decide +kernel
theorem dX5_disappoint_39 : decode cX5_disappoint 39 = .ok (.aload_n 0, 1) := by decide +kernel
theorem dX5_disappoint_40 : decode cX5_disappoint 40 = .ok (.getfield 158, 3) := by decide +kernel
theorem dX5_disappoint_43 : decode cX5_disappoint 43 = .ok (.if_icmp .ge 32, 3) := by decide +kernel
theorem dX5_disappoint_46 : decode cX5_disappoint 46 = .ok (.aload_n 0, 1) := by decide +kernel
theorem dX5_disappoint_47 : decode cX5_disappoint 47 = .ok (.getfield 35, 3) := by decide +kernel
theorem dX5_disappoint_50 : decode cX5_disappoint 50 = .ok (.iload_n 3, 1) := by decide +kernel
theorem dX5_disappoint_51 : decode cX5_disappoint 51 = .ok (.aaload, 1) := by decide +kernel
theorem dX5_disappoint_52 : decode cX5_disappoint 52 = .ok (.getfield 253, 3) := by decide +kernel
theorem dX5_disappoint_55 : decode cX5_disappoint 55 = .ok (.iload_n 1, 1) := by decide +kernel
theorem dX5_disappoint_56 : decode cX5_disappoint 56 = .ok (.if_icmp .ne 13, 3) := by decide +kernel
theorem dX5_disappoint_59 : decode cX5_disappoint 59 = .ok (.aload_n 0, 1) := by decide +kernel
theorem dX5_disappoint_60 : decode cX5_disappoint 60 = .ok (.getfield 35, 3) := by decide +kernel
theorem dX5_disappoint_63 : decode cX5_disappoint 63 = .ok (.iload_n 3, 1) := by decide +kernel
theorem dX5_disappoint_64 : decode cX5_disappoint 64 = .ok (.aaload, 1) := by decide +kernel
theorem dX5_disappoint_65 : decode cX5_disappoint 65 = .ok (.iconst 0, 1) := by decide +kernel
theorem dX5_disappoint_66 : decode cX5_disappoint 66 = .ok (.putfield 268, 3) := by decide +kernel
theorem dX5_disappoint_69 : decode cX5_disappoint 69 = .ok (.iinc 3 1, 3) := by decide +kernel
theorem dX5_disappoint_72 : decode cX5_disappoint 72 = .ok (.goto (-34), 3) := by decide +kernel
theorem dX5_disappoint_75 : decode cX5_disappoint 75 = .ok (.return_, 1) := by decide +kernel
theorem dX6_init_0 : decode cX6_init 0 = .ok (.aload_n 0, 1) := by decide +kernel
theorem dX6_init_1 : decode cX6_init 1 = .ok (.invokespecial 3, 3) := by decide +kernel
theorem dX6_init_4 : decode cX6_init 4 = .ok (.aload_n 0, 1) := by decide +kernel
theorem dX6_init_5 : decode cX6_init 5 = .ok (.bipush 8, 2) := by decide +kernel
theorem dX6_init_7 : decode cX6_init 7 = .ok (.newarray .int, 2) := by decide +kernel
theorem dX6_init_9 : decode cX6_init 9 = .ok (.putfield 9, 3) := by decide +kernel
theorem dX6_init_12 : decode cX6_init 12 = .ok (.aload_n 0, 1) := by decide +kernel
theorem dX6_init_13 : decode cX6_init 13 = .ok (.bipush 48, 2) := by decide +kernel
theorem dX6_init_15 : decode cX6_init 15 = .ok (.newarray .int, 2) := by decide +kernel
theorem dX6_init_17 : decode cX6_init 17 = .ok (.putfield 13, 3) := by decide +kernel
theorem dX6_init_20 : decode cX6_init 20 = .ok (.aload_n 0, 1) := by decide +kernel
theorem dX6_init_21 : decode cX6_init 21 = .ok (.bipush 12, 2) := by decide +kernel
theorem dX6_init_23 : decode cX6_init 23 = .ok (.newarray .int, 2) := by decide +kernel
theorem dX6_init_25 : decode cX6_init 25 = .ok (.putfield 16, 3) := by decide +kernel
theorem dX6_init_28 : decode cX6_init 28 = .ok (.aload_n 0, 1) := by decide +kernel
theorem dX6_init_29 : decode cX6_init 29 = .ok (.sipush 1200, 3) := by decide +kernel
theorem dX6_init_32 : decode cX6_init 32 = .ok (.newarray .int, 2) := by decide +kernel
theorem dX6_init_34 : decode cX6_init 34 = .ok (.putfield 19, 3) := by decide +kernel
theorem dX6_init_37 : decode cX6_init 37 = .ok (.aload_n 0, 1) := by decide +kernel
theorem dX6_init_38 : decode cX6_init 38 = .ok (.iconst 5, 1) := by decide +kernel
theorem dX6_init_39 : decode cX6_init 39 = .ok (.putfield 22, 3) := by decide +kernel
theorem dX6_init_42 : decode cX6_init 42 = .ok (.aload_n 0, 1) := by decide +kernel
theorem dX6_init_43 : decode cX6_init 43 = .ok (.bipush 20, 2) := by decide +kernel
theorem dX6_init_45 : decode cX6_init 45 = .ok (.putfield 26, 3) := by decide +kernel
theorem dX6_init_48 : decode cX6_init 48 = .ok (.aload_n 0, 1) := by decide +kernel
theorem dX6_init_49 : decode cX6_init 49 = .ok (.iconst 2, 1) := by decide +kernel
theorem dX6_init_50 : decode cX6_init 50 = .ok (.putfield 29, 3) := by decide +kernel
theorem dX6_init_53 : decode cX6_init 53 = .ok (.aload_n 0, 1) := by decide +kernel
theorem dX6_init_54 : decode cX6_init 54 = .ok (.bipush 12, 2) := by decide +kernel
theorem dX6_init_56 : decode cX6_init 56 = .ok (.newarray .int, 2) := by decide +kernel
theorem dX6_init_58 : decode cX6_init 58 = .ok (.putfield 32, 3) := by decide +kernel
theorem dX6_init_61 : decode cX6_init 61 = .ok (.aload_n 0, 1) := by decide +kernel
theorem dX6_init_62 : decode cX6_init 62 = .ok (.bipush 12, 2) := by decide +kernel
theorem dX6_init_64 : decode cX6_init 64 = .ok (.newarray .int, 2) := by decide +kernel
theorem dX6_init_66 : decode cX6_init 66 = .ok (.putfield 35, 3) := by decide +kernel
theorem dX6_init_69 : decode cX6_init 69 = .ok (.aload_n 0, 1) := by decide +kernel
theorem dX6_init_70 : decode cX6_init 70 = .ok (.bipush 12, 2) := by decide +kernel
theorem dX6_init_72 : decode cX6_init 72 = .ok (.newarray .int, 2) := by decide +kernel
theorem dX6_init_74 : decode cX6_init 74 = .ok (.putfield 38, 3) := by decide +kernel
theorem dX6_init_77 : decode cX6_init 77 = .ok (.aload_n 0, 1) := by decide +kernel
theorem dX6_init_78 : decode cX6_init 78 = .ok (.sipush 480, 3) := by decide +kernel
theorem dX6_init_81 : decode cX6_init 81 = .ok (.newarray .int, 2) := by decide +kernel
theorem dX6_init_83 : decode cX6_init 83 = .ok (.putfield 41, 3) := by decide +kernel
theorem dX6_init_86 : decode cX6_init 86 = .ok (.aload_n 0, 1) := by decide +kernel
theorem dX6_init_87 : decode cX6_init 87 = .ok (.sipush 1440, 3) := by decide +kernel
theorem dX6_init_90 : decode cX6_init 90 = .ok (.newarray .int, 2) := by decide +kernel
theorem dX6_init_92 : decode cX6_init 92 = .ok (.putfield 44, 3) := by decide +kernel
theorem dX6_init_95 : decode cX6_init 95 = .ok (.aload_n 0, 1) := by decide +kernel
theorem dX6_init_96 : decode cX6_init 96 = .ok (.sipush 480, 3) := by decide +kernel
theorem dX6_init_99 : decode cX6_init 99 = .ok (.newarray .boolean, 2) := by decide +kernel
theorem dX6_init_101 : decode cX6_init 101 = .ok (.putfield 47, 3) := by decide +kernel
theorem dX6_init_104 : decode cX6_init 104 = .ok (.aload_n 0, 1) := by decide +kernel
theorem dX6_init_105 : decode cX6_init 105 = .ok (.iconst 4, 1) := by decide +kernel
theorem dX6_init_106 : decode cX6_init 106 = .ok (.newarray .long, 2) := by decide +kernel
theorem dX6_init_108 : decode cX6_init 108 = .ok (.putfield 51, 3) := by decide +kernel
theorem dX6_init_111 : decode cX6_init 111 = .ok (.aload_n 0, 1) := by decide +kernel
theorem dX6_init_112 : decode cX6_init 112 = .ok (.bipush 20, 2) := by decide +kernel
theorem dX6_init_114 : decode cX6_init 114 = .ok (.newarray .int, 2) := by decide +kernel
theorem dX6_init_116 : decode cX6_init 116 = .ok (.putfield 55, 3) := by decide +kernel
theorem dX6_init_119 : decode cX6_init 119 = .ok (.aload_n 0, 1) := by decide +kernel
theorem dX6_init_120 : decode cX6_init 120 = .ok (.bipush 20, 2) := by decide +kernel
theorem dX6_init_122 : decode cX6_init 122 = .ok (.newarray .int, 2) := by decide +kernel
theorem dX6_init_124 : decode cX6_init 124 = .ok (.putfield 58, 3) := by decide +kernel
theorem dX6_init_127 : decode cX6_init 127 = .ok (.aload_n 0, 1) := by decide +kernel
theorem dX6_init_128 : decode cX6_init 128 = .ok (.bipush 20, 2) := by decide +kernel
theorem dX6_init_130 : decode cX6_init 130 = .ok (.newarray .int, 2) := by decide +kernel
theorem dX6_init_132 : decode cX6_init 132 = .ok (.putfield 61, 3) := by decide +kernel
theorem dX6_init_135 : decode cX6_init 135 = .ok (.aload_n 0, 1) := by decide +kernel
theorem dX6_init_136 : decode cX6_init 136 = .ok (.bipush 80, 2) := by decide +kernel
theorem dX6_init_138 : decode cX6_init 138 = .ok (.newarray .int, 2) := by decide +kernel
theorem dX6_init_140 : decode cX6_init 140 = .ok (.putfield 64, 3) := by decide +kernel
theorem dX6_init_143 : decode cX6_init 143 = .ok (.aload_n 0, 1) := by decide +kernel
theorem dX6_init_144 : decode cX6_init 144 = .ok (.bipush 80, 2) := by decide +kernel
theorem dX6_init_146 : decode cX6_init 146 = .ok (.newarray .int, 2) := by decide +kernel
theorem dX6_init_148 : decode cX6_init 148 = .ok (.putfield 67, 3) := by decide +kernel
theorem dX6_init_151 : decode cX6_init 151 = .ok (.aload_n 0, 1) := by decide +kernel
theorem dX6_init_152 : decode cX6_init 152 = .ok (.iconst (-1), 1) := by decide +kernel
theorem dX6_init_153 : decode cX6_init 153 = .ok (.putfield 70, 3) := by decide +kernel
theorem dX6_init_156 : decode cX6_init 156 = .ok (.return_, 1) := by decide +kernel
theorem dX6_thrown_0 : decode cX6_thrown 0 = .ok (.aload_n 0, 1) := by decide +kernel
theorem dX6_thrown_1 : decode cX6_thrown 1 = .ok (.getfield 73, 3) := by decide +kernel
theorem dX6_thrown_4 : decode cX6_thrown 4 = .ok (.ireturn, 1) := by decide +kernel
theorem dX6_fail_0 : decode cX6_fail 0 = .ok (.aload_n 0, 1) := by decide +kernel
theorem dX6_fail_1 : decode cX6_fail 1 = .ok (.iload_n 1, 1) := by decide +kernel
theorem dX6_fail_2 : decode cX6_fail 2 = .ok (.putfield 73, 3) := by decide +kernel
theorem dX6_fail_5 : decode cX6_fail 5 = .ok (.iconst 0, 1) := by decide +kernel
theorem dX6_fail_6 : decode cX6_fail 6 = .ok (.ireturn, 1) := by decide +kernel
theorem dX6_isClass_0 : decode cX6_isClass 0 = .ok (.iload_n 1, 1) := by decide +kernel
theorem dX6_isClass_1 : decode cX6_isClass 1 = .ok (.ifCond .lt 15, 3) := by decide +kernel
theorem dX6_isClass_4 : decode cX6_isClass 4 = .ok (.iload_n 1, 1) := by decide +kernel
theorem dX6_isClass_5 : decode cX6_isClass 5 = .ok (.aload_n 0, 1) := by decide +kernel
theorem dX6_isClass_6 : decode cX6_isClass 6 = .ok (.getfield 76, 3) := by decide +kernel
theorem dX6_isClass_9 : decode cX6_isClass 9 = .ok (.if_icmp .ge 7, 3) := by decide +kernel
theorem dX6_isClass_12 : decode cX6_isClass 12 = .ok (.iconst 1, 1) := by decide +kernel
theorem dX6_isClass_13 : decode cX6_isClass 13 = .ok (.goto 4, 3) := by decide +kernel
theorem dX6_isClass_16 : decode cX6_isClass 16 = .ok (.iconst 0, 1) := by decide +kernel
theorem dX6_isClass_17 : decode cX6_isClass 17 = .ok (.ireturn, 1) := by decide +kernel
theorem dX6_isMethod_0 : decode cX6_isMethod 0 = .ok (.iload_n 1, 1) := by decide +kernel
theorem dX6_isMethod_1 : decode cX6_isMethod 1 = .ok (.ifCond .lt 15, 3) := by decide +kernel
theorem dX6_isMethod_4 : decode cX6_isMethod 4 = .ok (.iload_n 1, 1) := by decide +kernel
theorem dX6_isMethod_5 : decode cX6_isMethod 5 = .ok (.aload_n 0, 1) := by decide +kernel
theorem dX6_isMethod_6 : decode cX6_isMethod 6 = .ok (.getfield 79, 3) := by decide +kernel
theorem dX6_isMethod_9 : decode cX6_isMethod 9 = .ok (.if_icmp .ge 7, 3) := by decide +kernel
theorem dX6_isMethod_12 : decode cX6_isMethod 12 = .ok (.iconst 1, 1) := by decide +kernel
theorem dX6_isMethod_13 : decode cX6_isMethod 13 = .ok (.goto 4, 3) := by decide +kernel
theorem dX6_isMethod_16 : decode cX6_isMethod 16 = .ok (.iconst 0, 1) := by decide +kernel
theorem dX6_isMethod_17 : decode cX6_isMethod 17 = .ok (.ireturn, 1) := by decide +kernel
theorem dX6_isSelector_0 : decode cX6_isSelector 0 = .ok (.iload_n 0, 1) := by decide +kernel
theorem dX6_isSelector_1 : decode cX6_isSelector 1 = .ok (.ifCond .lt 13, 3) := by decide +kernel
theorem dX6_isSelector_4 : decode cX6_isSelector 4 = .ok (.iload_n 0, 1) := by decide +kernel
theorem dX6_isSelector_5 : decode cX6_isSelector 5 = .ok (.bipush 6, 2) := by decide +kernel
theorem dX6_isSelector_7 : decode cX6_isSelector 7 = .ok (.if_icmp .ge 7, 3) := by decide +kernel
theorem dX6_isSelector_10 : decode cX6_isSelector 10 = .ok (.iconst 1, 1) := by decide +kernel
theorem dX6_isSelector_11 : decode cX6_isSelector 11 = .ok (.goto 4, 3) := by decide +kernel
theorem dX6_isSelector_14 : decode cX6_isSelector 14 = .ok (.iconst 0, 1) := by decide +kernel
theorem dX6_isSelector_15 : decode cX6_isSelector 15 = .ok (.ireturn, 1) := by decide +kernel
theorem dX6_isRegister_0 : decode cX6_isRegister 0 = .ok (.iload_n 0, 1) := by decide +kernel
theorem dX6_isRegister_1 : decode cX6_isRegister 1 = .ok (.ifCond .lt 12, 3) := by decide +kernel
theorem dX6_isRegister_4 : decode cX6_isRegister 4 = .ok (.iload_n 0, 1) := by decide +kernel
theorem dX6_isRegister_5 : decode cX6_isRegister 5 = .ok (.iconst 4, 1) := by decide +kernel
theorem dX6_isRegister_6 : decode cX6_isRegister 6 = .ok (.if_icmp .ge 7, 3) := by decide +kernel
theorem dX6_isRegister_9 : decode cX6_isRegister 9 = .ok (.iconst 1, 1) := by decide +kernel
theorem dX6_isRegister_10 : decode cX6_isRegister 10 = .ok (.goto 4, 3) := by decide +kernel
theorem dX6_isRegister_13 : decode cX6_isRegister 13 = .ok (.iconst 0, 1) := by decide +kernel
theorem dX6_isRegister_14 : decode cX6_isRegister 14 = .ok (.ireturn, 1) := by decide +kernel
theorem dX6_isPlace_0 : decode cX6_isPlace 0 = .ok (.iload_n 0, 1) := by decide +kernel
theorem dX6_isPlace_1 : decode cX6_isPlace 1 = .ok (.ifCond .lt 13, 3) := by decide +kernel
theorem dX6_isPlace_4 : decode cX6_isPlace 4 = .ok (.iload_n 0, 1) := by decide +kernel
theorem dX6_isPlace_5 : decode cX6_isPlace 5 = .ok (.bipush 20, 2) := by decide +kernel
theorem dX6_isPlace_7 : decode cX6_isPlace 7 = .ok (.if_icmp .gt 7, 3) := by decide +kernel
theorem dX6_isPlace_10 : decode cX6_isPlace 10 = .ok (.iconst 1, 1) := by decide +kernel
theorem dX6_isPlace_11 : decode cX6_isPlace 11 = .ok (.goto 4, 3) := by decide +kernel
theorem dX6_isPlace_14 : decode cX6_isPlace 14 = .ok (.iconst 0, 1) := by decide +kernel
theorem dX6_isPlace_15 : decode cX6_isPlace 15 = .ok (.ireturn, 1) := by decide +kernel
theorem dX6_addClass_0 : decode cX6_addClass 0 = .ok (.aload_n 0, 1) := by decide +kernel
theorem dX6_addClass_1 : decode cX6_addClass 1 = .ok (.iconst 0, 1) := by decide +kernel
theorem dX6_addClass_2 : decode cX6_addClass 2 = .ok (.putfield 73, 3) := by decide +kernel
theorem dX6_addClass_5 : decode cX6_addClass 5 = .ok (.iload_n 1, 1) := by decide +kernel
theorem dX6_addClass_6 : decode cX6_addClass 6 = .ok (.iconst (-1), 1) := by decide +kernel
theorem dX6_addClass_7 : decode cX6_addClass 7 = .ok (.if_icmp .eq 17, 3) := by decide +kernel
theorem dX6_addClass_10 : decode cX6_addClass 10 = .ok (.aload_n 0, 1) := by decide +kernel
theorem dX6_addClass_11 : decode cX6_addClass 11 = .ok (.iload_n 1, 1) := by decide +kernel
theorem dX6_addClass_12 : decode cX6_addClass 12 = .ok (.invokevirtual 82, 3) := by decide +kernel
theorem dX6_addClass_15 : decode cX6_addClass 15 = .ok (.ifCond .ne 9, 3) := by decide +kernel
theorem dX6_addClass_18 : decode cX6_addClass 18 = .ok (.aload_n 0, 1) := by decide +kernel
theorem dX6_addClass_19 : decode cX6_addClass 19 = .ok (.iconst 1, 1) := by decide +kernel
theorem dX6_addClass_20 : decode cX6_addClass 20 = .ok (.invokevirtual 86, 3) := by decide +kernel
theorem dX6_addClass_23 : decode cX6_addClass 23 = .ok (.ireturn, 1) := by decide +kernel
theorem dX6_addClass_24 : decode cX6_addClass 24 = .ok (.aload_n 0, 1) := by decide +kernel
theorem dX6_addClass_25 : decode cX6_addClass 25 = .ok (.getfield 76, 3) := by decide +kernel
theorem dX6_addClass_28 : decode cX6_addClass 28 = .ok (.bipush 8, 2) := by decide +kernel
theorem dX6_addClass_30 : decode cX6_addClass 30 = .ok (.if_icmp .ne 9, 3) := by decide +kernel
theorem dX6_addClass_33 : decode cX6_addClass 33 = .ok (.aload_n 0, 1) := by decide +kernel
theorem dX6_addClass_34 : decode cX6_addClass 34 = .ok (.iconst 2, 1) := by decide +kernel
theorem dX6_addClass_35 : decode cX6_addClass 35 = .ok (.invokevirtual 86, 3) := by decide +kernel
theorem dX6_addClass_38 : decode cX6_addClass 38 = .ok (.ireturn, 1) := by decide +kernel
theorem dX6_addClass_39 : decode cX6_addClass 39 = .ok (.aload_n 0, 1) := by decide +kernel
theorem dX6_addClass_40 : decode cX6_addClass 40 = .ok (.getfield 9, 3) := by decide +kernel
theorem dX6_addClass_43 : decode cX6_addClass 43 = .ok (.aload_n 0, 1) := by decide +kernel
theorem dX6_addClass_44 : decode cX6_addClass 44 = .ok (.getfield 76, 3) := by decide +kernel
theorem dX6_addClass_47 : decode cX6_addClass 47 = .ok (.iload_n 1, 1) := by decide +kernel
theorem dX6_addClass_48 : decode cX6_addClass 48 = .ok (.iastore, 1) := by decide +kernel
theorem dX6_addClass_49 : decode cX6_addClass 49 = .ok (.iconst 0, 1) := by decide +kernel
theorem dX6_addClass_50 : decode cX6_addClass 50 = .ok (.istore_n 2, 1) := by decide +kernel
theorem dX6_addClass_51 : decode cX6_addClass 51 = .ok (.iload_n 2, 1) := by decide +kernel
theorem dX6_addClass_52 : decode cX6_addClass 52 = .ok (.bipush 6, 2) := by decide +kernel
theorem dX6_addClass_54 : decode cX6_addClass 54 = .ok (.if_icmp .ge 24, 3) := by decide +kernel
theorem dX6_addClass_57 : decode cX6_addClass 57 = .ok (.aload_n 0, 1) := by decide +kernel
theorem dX6_addClass_58 : decode cX6_addClass 58 = .ok (.getfield 13, 3) := by decide +kernel
theorem dX6_addClass_61 : decode cX6_addClass 61 = .ok (.bipush 6, 2) := by decide +kernel
theorem dX6_addClass_63 : decode cX6_addClass 63 = .ok (.aload_n 0, 1) := by decide +kernel
theorem dX6_addClass_64 : decode cX6_addClass 64 = .ok (.getfield 76, 3) := by decide +kernel
theorem dX6_addClass_67 : decode cX6_addClass 67 = .ok (.imul, 1) := by decide +kernel
theorem dX6_addClass_68 : decode cX6_addClass 68 = .ok (.iload_n 2, 1) := by decide +kernel
theorem dX6_addClass_69 : decode cX6_addClass 69 = .ok (.iadd, 1) := by decide +kernel
theorem dX6_addClass_70 : decode cX6_addClass 70 = .ok (.iconst (-1), 1) := by decide +kernel
theorem dX6_addClass_71 : decode cX6_addClass 71 = .ok (.iastore, 1) := by decide +kernel
theorem dX6_addClass_72 : decode cX6_addClass 72 = .ok (.iinc 2 1, 3) := by decide +kernel
theorem dX6_addClass_75 : decode cX6_addClass 75 = .ok (.goto (-24), 3) := by decide +kernel
theorem dX6_addClass_78 : decode cX6_addClass 78 = .ok (.aload_n 0, 1) := by decide +kernel
theorem dX6_addClass_79 : decode cX6_addClass 79 = .ok (.dup, 1) := by decide +kernel
theorem dX6_addClass_80 : decode cX6_addClass 80 = .ok (.getfield 76, 3) := by decide +kernel
theorem dX6_addClass_83 : decode cX6_addClass 83 = .ok (.iconst 1, 1) := by decide +kernel
theorem dX6_addClass_84 : decode cX6_addClass 84 = .ok (.iadd, 1) := by decide +kernel
theorem dX6_addClass_85 : decode cX6_addClass 85 = .ok (.putfield 76, 3) := by decide +kernel
theorem dX6_addClass_88 : decode cX6_addClass 88 = .ok (.aload_n 0, 1) := by decide +kernel
theorem dX6_addClass_89 : decode cX6_addClass 89 = .ok (.getfield 76, 3) := by decide +kernel
theorem dX6_addClass_92 : decode cX6_addClass 92 = .ok (.iconst 1, 1) := by decide +kernel
theorem dX6_addClass_93 : decode cX6_addClass 93 = .ok (.isub, 1) := by decide +kernel
theorem dX6_addClass_94 : decode cX6_addClass 94 = .ok (.ireturn, 1) := by decide +kernel
theorem dX6_addMethod_0 : decode cX6_addMethod 0 = .ok (.aload_n 0, 1) := by decide +kernel
theorem dX6_addMethod_1 : decode cX6_addMethod 1 = .ok (.iconst 0, 1) := by decide +kernel
theorem dX6_addMethod_2 : decode cX6_addMethod 2 = .ok (.putfield 73, 3) := by decide +kernel
theorem dX6_addMethod_5 : decode cX6_addMethod 5 = .ok (.aload_n 0, 1) := by decide +kernel
theorem dX6_addMethod_6 : decode cX6_addMethod 6 = .ok (.getfield 79, 3) := by decide +kernel
theorem dX6_addMethod_9 : decode cX6_addMethod 9 = .ok (.bipush 12, 2) := by decide +kernel
theorem dX6_addMethod_11 : decode cX6_addMethod 11 = .ok (.if_icmp .ne 9, 3) := by decide +kernel
theorem dX6_addMethod_14 : decode cX6_addMethod 14 = .ok (.aload_n 0, 1) := by decide +kernel
theorem dX6_addMethod_15 : decode cX6_addMethod 15 = .ok (.iconst 1, 1) := by decide +kernel
theorem dX6_addMethod_16 : decode cX6_addMethod 16 = .ok (.invokevirtual 86, 3) := by decide +kernel
theorem dX6_addMethod_19 : decode cX6_addMethod 19 = .ok (.ireturn, 1) := by decide +kernel
theorem dX6_addMethod_20 : decode cX6_addMethod 20 = .ok (.aload_n 0, 1) := by decide +kernel
theorem dX6_addMethod_21 : decode cX6_addMethod 21 = .ok (.dup, 1) := by decide +kernel
theorem dX6_addMethod_22 : decode cX6_addMethod 22 = .ok (.getfield 79, 3) := by decide +kernel
theorem dX6_addMethod_25 : decode cX6_addMethod 25 = .ok (.iconst 1, 1) := by decide +kernel
theorem dX6_addMethod_26 : decode cX6_addMethod 26 = .ok (.iadd, 1) := by decide +kernel
theorem dX6_addMethod_27 : decode cX6_addMethod 27 = .ok (.putfield 79, 3) := by decide +kernel
theorem dX6_addMethod_30 : decode cX6_addMethod 30 = .ok (.aload_n 0, 1) := by decide +kernel
theorem dX6_addMethod_31 : decode cX6_addMethod 31 = .ok (.getfield 79, 3) := by decide +kernel
theorem dX6_addMethod_34 : decode cX6_addMethod 34 = .ok (.iconst 1, 1) := by decide +kernel
theorem dX6_addMethod_35 : decode cX6_addMethod 35 = .ok (.isub, 1) := by decide +kernel
theorem dX6_addMethod_36 : decode cX6_addMethod 36 = .ok (.ireturn, 1) := by decide +kernel
theorem dX6_empty_0 : decode cX6_empty 0 = .ok (.aload_n 0, 1) := by decide +kernel
theorem dX6_empty_1 : decode cX6_empty 1 = .ok (.getfield 41, 3) := by decide +kernel
theorem dX6_empty_4 : decode cX6_empty 4 = .ok (.iload_n 1, 1) := by decide +kernel
theorem dX6_empty_5 : decode cX6_empty 5 = .ok (.iconst 0, 1) := by decide +kernel
theorem dX6_empty_6 : decode cX6_empty 6 = .ok (.iastore, 1) := by decide +kernel
theorem dX6_empty_7 : decode cX6_empty 7 = .ok (.aload_n 0, 1) := by decide +kernel
theorem dX6_empty_8 : decode cX6_empty 8 = .ok (.getfield 47, 3) := by decide +kernel
theorem dX6_empty_11 : decode cX6_empty 11 = .ok (.iload_n 1, 1) := by decide +kernel
theorem dX6_empty_12 : decode cX6_empty 12 = .ok (.iconst 0, 1) := by decide +kernel
theorem dX6_empty_13 : decode cX6_empty 13 = .ok (.bastore, 1) := by decide +kernel
theorem dX6_empty_14 : decode cX6_empty 14 = .ok (.return_, 1) := by decide +kernel
theorem dX6_unlearn_0 : decode cX6_unlearn 0 = .ok (.aload_n 0, 1) := by decide +kernel
theorem dX6_unlearn_1 : decode cX6_unlearn 1 = .ok (.getfield 32, 3) := by decide +kernel
theorem dX6_unlearn_4 : decode cX6_unlearn 4 = .ok (.iload_n 1, 1) := by decide +kernel
theorem dX6_unlearn_5 : decode cX6_unlearn 5 = .ok (.iconst 0, 1) := by decide +kernel
theorem dX6_unlearn_6 : decode cX6_unlearn 6 = .ok (.iastore, 1) := by decide +kernel
theorem dX6_unlearn_7 : decode cX6_unlearn 7 = .ok (.aload_n 0, 1) := by decide +kernel
theorem dX6_unlearn_8 : decode cX6_unlearn 8 = .ok (.getfield 35, 3) := by decide +kernel
theorem dX6_unlearn_11 : decode cX6_unlearn 11 = .ok (.iload_n 1, 1) := by decide +kernel
theorem dX6_unlearn_12 : decode cX6_unlearn 12 = .ok (.iconst 0, 1) := by decide +kernel
theorem dX6_unlearn_13 : decode cX6_unlearn 13 = .ok (.iastore, 1) := by decide +kernel
theorem dX6_unlearn_14 : decode cX6_unlearn 14 = .ok (.aload_n 0, 1) := by decide +kernel
theorem dX6_unlearn_15 : decode cX6_unlearn 15 = .ok (.getfield 38, 3) := by decide +kernel
theorem dX6_unlearn_18 : decode cX6_unlearn 18 = .ok (.iload_n 1, 1) := by decide +kernel
theorem dX6_unlearn_19 : decode cX6_unlearn 19 = .ok (.iconst 0, 1) := by decide +kernel
theorem dX6_unlearn_20 : decode cX6_unlearn 20 = .ok (.iastore, 1) := by decide +kernel
theorem dX6_unlearn_21 : decode cX6_unlearn 21 = .ok (.iconst 0, 1) := by decide +kernel
theorem dX6_unlearn_22 : decode cX6_unlearn 22 = .ok (.istore_n 2, 1) := by decide +kernel
theorem dX6_unlearn_23 : decode cX6_unlearn 23 = .ok (.iload_n 2, 1) := by decide +kernel
theorem dX6_unlearn_24 : decode cX6_unlearn 24 = .ok (.bipush 20, 2) := by decide +kernel
theorem dX6_unlearn_26 : decode cX6_unlearn 26 = .ok (.if_icmp .ge 19, 3) := by decide +kernel
theorem dX6_unlearn_29 : decode cX6_unlearn 29 = .ok (.aload_n 0, 1) := by decide +kernel
theorem dX6_unlearn_30 : decode cX6_unlearn 30 = .ok (.bipush 20, 2) := by decide +kernel
theorem dX6_unlearn_32 : decode cX6_unlearn 32 = .ok (.iload_n 1, 1) := by decide +kernel
theorem dX6_unlearn_33 : decode cX6_unlearn 33 = .ok (.imul, 1) := by decide +kernel
theorem dX6_unlearn_34 : decode cX6_unlearn 34 = .ok (.iload_n 2, 1) := by decide +kernel
theorem dX6_unlearn_35 : decode cX6_unlearn 35 = .ok (.iadd, 1) := by decide +kernel
theorem dX6_unlearn_36 : decode cX6_unlearn 36 = .ok (.invokevirtual 90, 3) := by decide +kernel
theorem dX6_unlearn_39 : decode cX6_unlearn 39 = .ok (.iinc 2 1, 3) := by decide +kernel
theorem dX6_unlearn_42 : decode cX6_unlearn 42 = .ok (.goto (-19), 3) := by decide +kernel
theorem dX6_unlearn_45 : decode cX6_unlearn 45 = .ok (.return_, 1) := by decide +kernel
theorem dX6_areRight_0 : decode cX6_areRight 0 = .ok (.iload_n 1, 1) := by decide +kernel
theorem dX6_areRight_1 : decode cX6_areRight 1 = .ok (.tableswitch 170 0 7 #[47, 52, 52, 52, 80, 101, 137, 165], 47) := by decide +kernel
theorem dX6_areRight_48 : decode cX6_areRight 48 = .ok (.iload_n 2, 1) := by decide +kernel
theorem dX6_areRight_49 : decode cX6_areRight 49 = .ok (.invokestatic 94, 3) := by decide +kernel
theorem dX6_areRight_52 : decode cX6_areRight 52 = .ok (.ireturn, 1) := by decide +kernel
theorem dX6_areRight_53 : decode cX6_areRight 53 = .ok (.iload_n 2, 1) := by decide +kernel
theorem dX6_areRight_54 : decode cX6_areRight 54 = .ok (.invokestatic 94, 3) := by decide +kernel
theorem dX6_areRight_57 : decode cX6_areRight 57 = .ok (.ifCond .eq 22, 3) := by decide +kernel
theorem dX6_areRight_60 : decode cX6_areRight 60 = .ok (.iload_n 3, 1) := by decide +kernel
theorem dX6_areRight_61 : decode cX6_areRight 61 = .ok (.invokestatic 94, 3) := by decide +kernel
theorem dX6_areRight_64 : decode cX6_areRight 64 = .ok (.ifCond .eq 15, 3) := by decide +kernel
theorem dX6_areRight_67 : decode cX6_areRight 67 = .ok (.iload 4, 2) := by decide +kernel
theorem dX6_areRight_69 : decode cX6_areRight 69 = .ok (.invokestatic 94, 3) := by decide +kernel
theorem dX6_areRight_72 : decode cX6_areRight 72 = .ok (.ifCond .eq 7, 3) := by decide +kernel
theorem dX6_areRight_75 : decode cX6_areRight 75 = .ok (.iconst 1, 1) := by decide +kernel
theorem dX6_areRight_76 : decode cX6_areRight 76 = .ok (.goto 4, 3) := by decide +kernel
theorem dX6_areRight_79 : decode cX6_areRight 79 = .ok (.iconst 0, 1) := by decide +kernel
theorem dX6_areRight_80 : decode cX6_areRight 80 = .ok (.ireturn, 1) := by decide +kernel
theorem dX6_areRight_81 : decode cX6_areRight 81 = .ok (.iload_n 2, 1) := by decide +kernel
theorem dX6_areRight_82 : decode cX6_areRight 82 = .ok (.invokestatic 94, 3) := by decide +kernel
theorem dX6_areRight_85 : decode cX6_areRight 85 = .ok (.ifCond .eq 15, 3) := by decide +kernel
theorem dX6_areRight_88 : decode cX6_areRight 88 = .ok (.aload_n 0, 1) := by decide +kernel
theorem dX6_areRight_89 : decode cX6_areRight 89 = .ok (.iload_n 3, 1) := by decide +kernel
theorem dX6_areRight_90 : decode cX6_areRight 90 = .ok (.invokevirtual 82, 3) := by decide +kernel
theorem dX6_areRight_93 : decode cX6_areRight 93 = .ok (.ifCond .eq 7, 3) := by decide +kernel
theorem dX6_areRight_96 : decode cX6_areRight 96 = .ok (.iconst 1, 1) := by decide +kernel
theorem dX6_areRight_97 : decode cX6_areRight 97 = .ok (.goto 4, 3) := by decide +kernel
theorem dX6_areRight_100 : decode cX6_areRight 100 = .ok (.iconst 0, 1) := by decide +kernel
theorem dX6_areRight_101 : decode cX6_areRight 101 = .ok (.ireturn, 1) := by decide +kernel
theorem dX6_areRight_102 : decode cX6_areRight 102 = .ok (.iload_n 2, 1) := by decide +kernel
theorem dX6_areRight_103 : decode cX6_areRight 103 = .ok (.invokestatic 94, 3) := by decide +kernel
theorem dX6_areRight_106 : decode cX6_areRight 106 = .ok (.ifCond .eq 30, 3) := by decide +kernel
theorem dX6_areRight_109 : decode cX6_areRight 109 = .ok (.iload_n 3, 1) := by decide +kernel
theorem dX6_areRight_110 : decode cX6_areRight 110 = .ok (.invokestatic 97, 3) := by decide +kernel
theorem dX6_areRight_113 : decode cX6_areRight 113 = .ok (.ifCond .eq 23, 3) := by decide +kernel
theorem dX6_areRight_116 : decode cX6_areRight 116 = .ok (.iload 4, 2) := by decide +kernel
theorem dX6_areRight_118 : decode cX6_areRight 118 = .ok (.invokestatic 94, 3) := by decide +kernel
theorem dX6_areRight_121 : decode cX6_areRight 121 = .ok (.ifCond .eq 15, 3) := by decide +kernel
theorem dX6_areRight_124 : decode cX6_areRight 124 = .ok (.iload 5, 2) := by decide +kernel
theorem dX6_areRight_126 : decode cX6_areRight 126 = .ok (.invokestatic 94, 3) := by decide +kernel
theorem dX6_areRight_129 : decode cX6_areRight 129 = .ok (.ifCond .eq 7, 3) := by decide +kernel
theorem dX6_areRight_132 : decode cX6_areRight 132 = .ok (.iconst 1, 1) := by decide +kernel
theorem dX6_areRight_133 : decode cX6_areRight 133 = .ok (.goto 4, 3) := by decide +kernel
theorem dX6_areRight_136 : decode cX6_areRight 136 = .ok (.iconst 0, 1) := by decide +kernel
theorem dX6_areRight_137 : decode cX6_areRight 137 = .ok (.ireturn, 1) := by decide +kernel
theorem dX6_areRight_138 : decode cX6_areRight 138 = .ok (.iload_n 2, 1) := by decide +kernel
theorem dX6_areRight_139 : decode cX6_areRight 139 = .ok (.invokestatic 94, 3) := by decide +kernel
theorem dX6_areRight_142 : decode cX6_areRight 142 = .ok (.ifCond .eq 22, 3) := by decide +kernel
theorem dX6_areRight_145 : decode cX6_areRight 145 = .ok (.iload_n 3, 1) := by decide +kernel
theorem dX6_areRight_146 : decode cX6_areRight 146 = .ok (.invokestatic 94, 3) := by decide +kernel
theorem dX6_areRight_149 : decode cX6_areRight 149 = .ok (.ifCond .eq 15, 3) := by decide +kernel
theorem dX6_areRight_152 : decode cX6_areRight 152 = .ok (.iload 4, 2) := by decide +kernel
theorem dX6_areRight_154 : decode cX6_areRight 154 = .ok (.invokestatic 100, 3) := by decide +kernel
theorem dX6_areRight_157 : decode cX6_areRight 157 = .ok (.ifCond .eq 7, 3) := by decide +kernel
theorem dX6_areRight_160 : decode cX6_areRight 160 = .ok (.iconst 1, 1) := by decide +kernel
theorem dX6_areRight_161 : decode cX6_areRight 161 = .ok (.goto 4, 3) := by decide +kernel
theorem dX6_areRight_164 : decode cX6_areRight 164 = .ok (.iconst 0, 1) := by decide +kernel
theorem dX6_areRight_165 : decode cX6_areRight 165 = .ok (.ireturn, 1) := by decide +kernel
theorem dX6_areRight_166 : decode cX6_areRight 166 = .ok (.iload_n 2, 1) := by decide +kernel
theorem dX6_areRight_167 : decode cX6_areRight 167 = .ok (.invokestatic 100, 3) := by decide +kernel
theorem dX6_areRight_170 : decode cX6_areRight 170 = .ok (.ireturn, 1) := by decide +kernel
theorem dX6_areRight_171 : decode cX6_areRight 171 = .ok (.iload_n 1, 1) := by decide +kernel
theorem dX6_areRight_172 : decode cX6_areRight 172 = .ok (.bipush 8, 2) := by decide +kernel
theorem dX6_areRight_174 : decode cX6_areRight 174 = .ok (.if_icmp .ne 14, 3) := by decide +kernel
theorem dX6_areRight_177 : decode cX6_areRight 177 = .ok (.iload_n 2, 1) := by decide +kernel
theorem dX6_areRight_178 : decode cX6_areRight 178 = .ok (.invokestatic 94, 3) := by decide +kernel
theorem dX6_areRight_181 : decode cX6_areRight 181 = .ok (.ifCond .eq 7, 3) := by decide +kernel
theorem dX6_areRight_184 : decode cX6_areRight 184 = .ok (.iconst 1, 1) := by decide +kernel
theorem dX6_areRight_185 : decode cX6_areRight 185 = .ok (.goto 4, 3) := by decide +kernel
theorem dX6_areRight_188 : decode cX6_areRight 188 = .ok (.iconst 0, 1) := by decide +kernel
theorem dX6_areRight_189 : decode cX6_areRight 189 = .ok (.ireturn, 1) := by decide +kernel
theorem dX6_append_0 : decode cX6_append 0 = .ok (.aload_n 0, 1) := by decide +kernel
theorem dX6_append_1 : decode cX6_append 1 = .ok (.iconst 0, 1) := by decide +kernel
theorem dX6_append_2 : decode cX6_append 2 = .ok (.putfield 73, 3) := by decide +kernel
theorem dX6_append_5 : decode cX6_append 5 = .ok (.aload_n 0, 1) := by decide +kernel
theorem dX6_append_6 : decode cX6_append 6 = .ok (.iload_n 1, 1) := by decide +kernel
theorem dX6_append_7 : decode cX6_append 7 = .ok (.invokevirtual 103, 3) := by decide +kernel
theorem dX6_append_10 : decode cX6_append 10 = .ok (.ifCond .ne 9, 3) := by decide +kernel
theorem dX6_append_13 : decode cX6_append 13 = .ok (.aload_n 0, 1) := by decide +kernel
theorem dX6_append_14 : decode cX6_append 14 = .ok (.iconst 1, 1) := by decide +kernel
theorem dX6_append_15 : decode cX6_append 15 = .ok (.invokevirtual 86, 3) := by decide +kernel
theorem dX6_append_18 : decode cX6_append 18 = .ok (.ireturn, 1) := by decide +kernel
theorem dX6_append_19 : decode cX6_append 19 = .ok (.aload_n 0, 1) := by decide +kernel
theorem dX6_append_20 : decode cX6_append 20 = .ok (.iload_n 2, 1) := by decide +kernel
theorem dX6_append_21 : decode cX6_append 21 = .ok (.iload_n 3, 1) := by decide +kernel
theorem dX6_append_22 : decode cX6_append 22 = .ok (.iload 4, 2) := by decide +kernel
theorem dX6_append_24 : decode cX6_append 24 = .ok (.iload 5, 2) := by decide +kernel
theorem dX6_append_26 : decode cX6_append 26 = .ok (.iload 6, 2) := by decide +kernel
theorem dX6_append_28 : decode cX6_append 28 = .ok (.invokevirtual 106, 3) := by decide +kernel
theorem dX6_append_31 : decode cX6_append 31 = .ok (.ifCond .ne 9, 3) := by decide +kernel
theorem dX6_append_34 : decode cX6_append 34 = .ok (.aload_n 0, 1) := by decide +kernel
theorem dX6_append_35 : decode cX6_append 35 = .ok (.iconst 2, 1) := by decide +kernel
theorem dX6_append_36 : decode cX6_append 36 = .ok (.invokevirtual 86, 3) := by decide +kernel
theorem dX6_append_39 : decode cX6_append 39 = .ok (.ireturn, 1) := by decide +kernel
theorem dX6_append_40 : decode cX6_append 40 = .ok (.aload_n 0, 1) := by decide +kernel
theorem dX6_append_41 : decode cX6_append 41 = .ok (.getfield 16, 3) := by decide +kernel
theorem dX6_append_44 : decode cX6_append 44 = .ok (.iload_n 1, 1) := by decide +kernel
theorem dX6_append_45 : decode cX6_append 45 = .ok (.iaload, 1) := by decide +kernel
theorem dX6_append_46 : decode cX6_append 46 = .ok (.bipush 20, 2) := by decide +kernel
theorem dX6_append_48 : decode cX6_append 48 = .ok (.if_icmp .ne 9, 3) := by decide +kernel
theorem dX6_append_51 : decode cX6_append 51 = .ok (.aload_n 0, 1) := by decide +kernel
theorem dX6_append_52 : decode cX6_append 52 = .ok (.iconst 3, 1) := by decide +kernel
theorem dX6_append_53 : decode cX6_append 53 = .ok (.invokevirtual 86, 3) := by decide +kernel
theorem dX6_append_56 : decode cX6_append 56 = .ok (.ireturn, 1) := by decide +kernel
theorem dX6_append_57 : decode cX6_append 57 = .ok (.iconst 5, 1) := by decide +kernel
theorem dX6_append_58 : decode cX6_append 58 = .ok (.bipush 20, 2) := by decide +kernel
theorem dX6_append_60 : decode cX6_append 60 = .ok (.iload_n 1, 1) := by decide +kernel
theorem dX6_append_61 : decode cX6_append 61 = .ok (.imul, 1) := by decide +kernel
theorem dX6_append_62 : decode cX6_append 62 = .ok (.aload_n 0, 1) := by decide +kernel
theorem dX6_append_63 : decode cX6_append 63 = .ok (.getfield 16, 3) := by decide +kernel
theorem dX6_append_66 : decode cX6_append 66 = .ok (.iload_n 1, 1) := by decide +kernel
theorem dX6_append_67 : decode cX6_append 67 = .ok (.iaload, 1) := by decide +kernel
theorem dX6_append_68 : decode cX6_append 68 = .ok (.iadd, 1) := by decide +kernel
theorem dX6_append_69 : decode cX6_append 69 = .ok (.imul, 1) := by decide +kernel
theorem dX6_append_70 : decode cX6_append 70 = .ok (.istore 7, 2) := by decide +kernel
theorem dX6_append_72 : decode cX6_append 72 = .ok (.aload_n 0, 1) := by decide +kernel
theorem dX6_append_73 : decode cX6_append 73 = .ok (.getfield 19, 3) := by decide +kernel
theorem dX6_append_76 : decode cX6_append 76 = .ok (.iload 7, 2) := by decide +kernel
theorem dX6_append_78 : decode cX6_append 78 = .ok (.iload_n 2, 1) := by decide +kernel
theorem dX6_append_79 : decode cX6_append 79 = .ok (.iastore, 1) := by decide +kernel
theorem dX6_append_80 : decode cX6_append 80 = .ok (.aload_n 0, 1) := by decide +kernel
theorem dX6_append_81 : decode cX6_append 81 = .ok (.getfield 19, 3) := by decide +kernel
theorem dX6_append_84 : decode cX6_append 84 = .ok (.iload 7, 2) := by decide +kernel
theorem dX6_append_86 : decode cX6_append 86 = .ok (.iconst 1, 1) := by decide +kernel
theorem dX6_append_87 : decode cX6_append 87 = .ok (.iadd, 1) := by decide +kernel
theorem dX6_append_88 : decode cX6_append 88 = .ok (.iload_n 3, 1) := by decide +kernel
theorem dX6_append_89 : decode cX6_append 89 = .ok (.iastore, 1) := by decide +kernel
theorem dX6_append_90 : decode cX6_append 90 = .ok (.aload_n 0, 1) := by decide +kernel
theorem dX6_append_91 : decode cX6_append 91 = .ok (.getfield 19, 3) := by decide +kernel
theorem dX6_append_94 : decode cX6_append 94 = .ok (.iload 7, 2) := by decide +kernel
theorem dX6_append_96 : decode cX6_append 96 = .ok (.iconst 2, 1) := by decide +kernel
theorem dX6_append_97 : decode cX6_append 97 = .ok (.iadd, 1) := by decide +kernel
theorem dX6_append_98 : decode cX6_append 98 = .ok (.iload 4, 2) := by decide +kernel
theorem dX6_append_100 : decode cX6_append 100 = .ok (.iastore, 1) := by decide +kernel
theorem dX6_append_101 : decode cX6_append 101 = .ok (.aload_n 0, 1) := by decide +kernel
theorem dX6_append_102 : decode cX6_append 102 = .ok (.getfield 19, 3) := by decide +kernel
theorem dX6_append_105 : decode cX6_append 105 = .ok (.iload 7, 2) := by decide +kernel
theorem dX6_append_107 : decode cX6_append 107 = .ok (.iconst 3, 1) := by decide +kernel
theorem dX6_append_108 : decode cX6_append 108 = .ok (.iadd, 1) := by decide +kernel
theorem dX6_append_109 : decode cX6_append 109 = .ok (.iload 5, 2) := by decide +kernel
theorem dX6_append_111 : decode cX6_append 111 = .ok (.iastore, 1) := by decide +kernel
theorem dX6_append_112 : decode cX6_append 112 = .ok (.aload_n 0, 1) := by decide +kernel
theorem dX6_append_113 : decode cX6_append 113 = .ok (.getfield 19, 3) := by decide +kernel
theorem dX6_append_116 : decode cX6_append 116 = .ok (.iload 7, 2) := by decide +kernel
theorem dX6_append_118 : decode cX6_append 118 = .ok (.iconst 4, 1) := by decide +kernel
theorem dX6_append_119 : decode cX6_append 119 = .ok (.iadd, 1) := by decide +kernel
theorem dX6_append_120 : decode cX6_append 120 = .ok (.iload 6, 2) := by decide +kernel
theorem dX6_append_122 : decode cX6_append 122 = .ok (.iastore, 1) := by decide +kernel
theorem dX6_append_123 : decode cX6_append 123 = .ok (.aload_n 0, 1) := by decide +kernel
theorem dX6_append_124 : decode cX6_append 124 = .ok (.getfield 16, 3) := by decide +kernel
theorem dX6_append_127 : decode cX6_append 127 = .ok (.iload_n 1, 1) := by decide +kernel
theorem dX6_append_128 : decode cX6_append 128 = .ok (.dup2, 1) := by decide +kernel
theorem dX6_append_129 : decode cX6_append 129 = .ok (.iaload, 1) := by decide +kernel
theorem dX6_append_130 : decode cX6_append 130 = .ok (.iconst 1, 1) := by decide +kernel
theorem dX6_append_131 : decode cX6_append 131 = .ok (.iadd, 1) := by decide +kernel
theorem dX6_append_132 : decode cX6_append 132 = .ok (.iastore, 1) := by decide +kernel
theorem dX6_append_133 : decode cX6_append 133 = .ok (.aload_n 0, 1) := by decide +kernel
theorem dX6_append_134 : decode cX6_append 134 = .ok (.iload_n 1, 1) := by decide +kernel
theorem dX6_append_135 : decode cX6_append 135 = .ok (.invokevirtual 110, 3) := by decide +kernel
theorem dX6_append_138 : decode cX6_append 138 = .ok (.aload_n 0, 1) := by decide +kernel
theorem dX6_append_139 : decode cX6_append 139 = .ok (.getfield 16, 3) := by decide +kernel
theorem dX6_append_142 : decode cX6_append 142 = .ok (.iload_n 1, 1) := by decide +kernel
theorem dX6_append_143 : decode cX6_append 143 = .ok (.iaload, 1) := by decide +kernel
theorem dX6_append_144 : decode cX6_append 144 = .ok (.iconst 1, 1) := by decide +kernel
theorem dX6_append_145 : decode cX6_append 145 = .ok (.isub, 1) := by decide +kernel
theorem dX6_append_146 : decode cX6_append 146 = .ok (.ireturn, 1) := by decide +kernel
theorem dX6_kindAt_0 : decode cX6_kindAt 0 = .ok (.iload_n 2, 1) := by decide +kernel
theorem dX6_kindAt_1 : decode cX6_kindAt 1 = .ok (.aload_n 0, 1) := by decide +kernel
theorem dX6_kindAt_2 : decode cX6_kindAt 2 = .ok (.getfield 16, 3) := by decide +kernel
theorem dX6_kindAt_5 : decode cX6_kindAt 5 = .ok (.iload_n 1, 1) := by decide +kernel
theorem dX6_kindAt_6 : decode cX6_kindAt 6 = .ok (.iaload, 1) := by decide +kernel
theorem dX6_kindAt_7 : decode cX6_kindAt 7 = .ok (.if_icmp .ge 19, 3) := by decide +kernel
theorem dX6_kindAt_10 : decode cX6_kindAt 10 = .ok (.aload_n 0, 1) := by decide +kernel
theorem dX6_kindAt_11 : decode cX6_kindAt 11 = .ok (.getfield 19, 3) := by decide +kernel
theorem dX6_kindAt_14 : decode cX6_kindAt 14 = .ok (.iconst 5, 1) := by decide +kernel
theorem dX6_kindAt_15 : decode cX6_kindAt 15 = .ok (.bipush 20, 2) := by decide +kernel
theorem dX6_kindAt_17 : decode cX6_kindAt 17 = .ok (.iload_n 1, 1) := by decide +kernel
theorem dX6_kindAt_18 : decode cX6_kindAt 18 = .ok (.imul, 1) := by decide +kernel
theorem dX6_kindAt_19 : decode cX6_kindAt 19 = .ok (.iload_n 2, 1) := by decide +kernel
theorem dX6_kindAt_20 : decode cX6_kindAt 20 = .ok (.iadd, 1) := by decide +kernel
theorem dX6_kindAt_21 : decode cX6_kindAt 21 = .ok (.imul, 1) := by decide +kernel
theorem dX6_kindAt_22 : decode cX6_kindAt 22 = .ok (.iaload, 1) := by decide +kernel
theorem dX6_kindAt_23 : decode cX6_kindAt 23 = .ok (.goto 4, 3) := by decide +kernel
theorem dX6_kindAt_26 : decode cX6_kindAt 26 = .ok (.iconst (-1), 1) := by decide +kernel
theorem dX6_kindAt_27 : decode cX6_kindAt 27 = .ok (.ireturn, 1) := by decide +kernel
theorem dX6_operand_0 : decode cX6_operand 0 = .ok (.aload_n 0, 1) := by decide +kernel
theorem dX6_operand_1 : decode cX6_operand 1 = .ok (.getfield 19, 3) := by decide +kernel
theorem dX6_operand_4 : decode cX6_operand 4 = .ok (.iconst 5, 1) := by decide +kernel
theorem dX6_operand_5 : decode cX6_operand 5 = .ok (.bipush 20, 2) := by decide +kernel
theorem dX6_operand_7 : decode cX6_operand 7 = .ok (.iload_n 1, 1) := by decide +kernel
theorem dX6_operand_8 : decode cX6_operand 8 = .ok (.imul, 1) := by decide +kernel
theorem dX6_operand_9 : decode cX6_operand 9 = .ok (.iload_n 2, 1) := by decide +kernel
theorem dX6_operand_10 : decode cX6_operand 10 = .ok (.iadd, 1) := by decide +kernel
theorem dX6_operand_11 : decode cX6_operand 11 = .ok (.imul, 1) := by decide +kernel
theorem dX6_operand_12 : decode cX6_operand 12 = .ok (.iload_n 3, 1) := by decide +kernel
theorem dX6_operand_13 : decode cX6_operand 13 = .ok (.iadd, 1) := by decide +kernel
theorem dX6_operand_14 : decode cX6_operand 14 = .ok (.iaload, 1) := by decide +kernel
theorem dX6_operand_15 : decode cX6_operand 15 = .ok (.ireturn, 1) := by decide +kernel
theorem dX6_implementer_0 : decode cX6_implementer 0 = .ok (.iload_n 1, 1) := by decide +kernel
theorem dX6_implementer_1 : decode cX6_implementer 1 = .ok (.istore_n 3, 1) := by decide +kernel
theorem dX6_implementer_2 : decode cX6_implementer 2 = .ok (.iload_n 3, 1) := by decide +kernel
theorem dX6_implementer_3 : decode cX6_implementer 3 = .ok (.iconst (-1), 1) := by decide +kernel
theorem dX6_implementer_4 : decode cX6_implementer 4 = .ok (.if_icmp .eq 28, 3) := by decide +kernel
theorem dX6_implementer_7 : decode cX6_implementer 7 = .ok (.aload_n 0, 1) := by decide +kernel
theorem dX6_implementer_8 : decode cX6_implementer 8 = .ok (.getfield 13, 3) := by decide +kernel
theorem dX6_implementer_11 : decode cX6_implementer 11 = .ok (.bipush 6, 2) := by decide +kernel
theorem dX6_implementer_13 : decode cX6_implementer 13 = .ok (.iload_n 3, 1) := by decide +kernel
theorem dX6_implementer_14 : decode cX6_implementer 14 = .ok (.imul, 1) := by decide +kernel
theorem dX6_implementer_15 : decode cX6_implementer 15 = .ok (.iload_n 2, 1) := by decide +kernel
theorem dX6_implementer_16 : decode cX6_implementer 16 = .ok (.iadd, 1) := by decide +kernel
theorem dX6_implementer_17 : decode cX6_implementer 17 = .ok (.iaload, 1) := by decide +kernel
theorem dX6_implementer_18 : decode cX6_implementer 18 = .ok (.iconst (-1), 1) := by decide +kernel
theorem dX6_implementer_19 : decode cX6_implementer 19 = .ok (.if_icmp .ne 13, 3) := by decide +kernel
theorem dX6_implementer_22 : decode cX6_implementer 22 = .ok (.aload_n 0, 1) := by decide +kernel
theorem dX6_implementer_23 : decode cX6_implementer 23 = .ok (.getfield 9, 3) := by decide +kernel
theorem dX6_implementer_26 : decode cX6_implementer 26 = .ok (.iload_n 3, 1) := by decide +kernel
theorem dX6_implementer_27 : decode cX6_implementer 27 = .ok (.iaload, 1) := by decide +kernel
theorem dX6_implementer_28 : decode cX6_implementer 28 = .ok (.istore_n 3, 1) := by decide +kernel
theorem dX6_implementer_29 : decode cX6_implementer 29 = .ok (.goto (-27), 3) := by decide +kernel
theorem dX6_implementer_32 : decode cX6_implementer 32 = .ok (.iload_n 3, 1) := by decide +kernel
theorem dX6_implementer_33 : decode cX6_implementer 33 = .ok (.ireturn, 1) := by decide +kernel
theorem dX6_understood_0 : decode cX6_understood 0 = .ok (.aload_n 0, 1) := by decide +kernel
theorem dX6_understood_1 : decode cX6_understood 1 = .ok (.iload_n 1, 1) := by decide +kernel
theorem dX6_understood_2 : decode cX6_understood 2 = .ok (.iload_n 2, 1) := by decide +kernel
theorem dX6_understood_3 : decode cX6_understood 3 = .ok (.invokevirtual 113, 3) := by decide +kernel
theorem dX6_understood_6 : decode cX6_understood 6 = .ok (.istore_n 3, 1) := by decide +kernel
theorem dX6_understood_7 : decode cX6_understood 7 = .ok (.iload_n 3, 1) := by decide +kernel
theorem dX6_understood_8 : decode cX6_understood 8 = .ok (.iconst (-1), 1) := by decide +kernel
theorem dX6_understood_9 : decode cX6_understood 9 = .ok (.if_icmp .ne 7, 3) := by decide +kernel
theorem dX6_understood_12 : decode cX6_understood 12 = .ok (.iconst (-1), 1) := by decide +kernel
theorem dX6_understood_13 : decode cX6_understood 13 = .ok (.goto 14, 3) := by decide +kernel
theorem dX6_understood_16 : decode cX6_understood 16 = .ok (.aload_n 0, 1) := by decide +kernel
theorem dX6_understood_17 : decode cX6_understood 17 = .ok (.getfield 13, 3) := by decide +kernel
theorem dX6_understood_20 : decode cX6_understood 20 = .ok (.bipush 6, 2) := by decide +kernel
theorem dX6_understood_22 : decode cX6_understood 22 = .ok (.iload_n 3, 1) := by decide +kernel
theorem dX6_understood_23 : decode cX6_understood 23 = .ok (.imul, 1) := by decide +kernel
theorem dX6_understood_24 : decode cX6_understood 24 = .ok (.iload_n 2, 1) := by decide +kernel
theorem dX6_understood_25 : decode cX6_understood 25 = .ok (.iadd, 1) := by decide +kernel
theorem dX6_understood_26 : decode cX6_understood 26 = .ok (.iaload, 1) := by decide +kernel
theorem dX6_understood_27 : decode cX6_understood 27 = .ok (.ireturn, 1) := by decide +kernel
theorem dX6_implement_0 : decode cX6_implement 0 = .ok (.aload_n 0, 1) := by decide +kernel
theorem dX6_implement_1 : decode cX6_implement 1 = .ok (.iconst 0, 1) := by decide +kernel
theorem dX6_implement_2 : decode cX6_implement 2 = .ok (.putfield 73, 3) := by decide +kernel
theorem dX6_implement_5 : decode cX6_implement 5 = .ok (.aload_n 0, 1) := by decide +kernel
theorem dX6_implement_6 : decode cX6_implement 6 = .ok (.iload_n 1, 1) := by decide +kernel
theorem dX6_implement_7 : decode cX6_implement 7 = .ok (.invokevirtual 82, 3) := by decide +kernel
theorem dX6_implement_10 : decode cX6_implement 10 = .ok (.ifCond .eq 23, 3) := by decide +kernel
theorem dX6_implement_13 : decode cX6_implement 13 = .ok (.iload_n 2, 1) := by decide +kernel
theorem dX6_implement_14 : decode cX6_implement 14 = .ok (.invokestatic 97, 3) := by decide +kernel
theorem dX6_implement_17 : decode cX6_implement 17 = .ok (.ifCond .eq 16, 3) := by decide +kernel
theorem dX6_implement_20 : decode cX6_implement 20 = .ok (.iload_n 3, 1) := by decide +kernel
theorem dX6_implement_21 : decode cX6_implement 21 = .ok (.iconst (-1), 1) := by decide +kernel
theorem dX6_implement_22 : decode cX6_implement 22 = .ok (.if_icmp .eq 17, 3) := by decide +kernel
theorem dX6_implement_25 : decode cX6_implement 25 = .ok (.aload_n 0, 1) := by decide +kernel
theorem dX6_implement_26 : decode cX6_implement 26 = .ok (.iload_n 3, 1) := by decide +kernel
theorem dX6_implement_27 : decode cX6_implement 27 = .ok (.invokevirtual 103, 3) := by decide +kernel
theorem dX6_implement_30 : decode cX6_implement 30 = .ok (.ifCond .ne 9, 3) := by decide +kernel
theorem dX6_implement_33 : decode cX6_implement 33 = .ok (.aload_n 0, 1) := by decide +kernel
theorem dX6_implement_34 : decode cX6_implement 34 = .ok (.iconst 1, 1) := by decide +kernel
theorem dX6_implement_35 : decode cX6_implement 35 = .ok (.invokevirtual 86, 3) := by decide +kernel
theorem dX6_implement_38 : decode cX6_implement 38 = .ok (.ireturn, 1) := by decide +kernel
theorem dX6_implement_39 : decode cX6_implement 39 = .ok (.bipush 8, 2) := by decide +kernel
theorem dX6_implement_41 : decode cX6_implement 41 = .ok (.newarray .int, 2) := by decide +kernel
theorem dX6_implement_43 : decode cX6_implement 43 = .ok (.astore 4, 2) := by decide +kernel
theorem dX6_implement_45 : decode cX6_implement 45 = .ok (.iconst 0, 1) := by decide +kernel
theorem dX6_implement_46 : decode cX6_implement 46 = .ok (.istore 5, 2) := by decide +kernel
theorem dX6_implement_48 : decode cX6_implement 48 = .ok (.iload 5, 2) := by decide +kernel
theorem dX6_implement_50 : decode cX6_implement 50 = .ok (.aload_n 0, 1) := by decide +kernel
theorem dX6_implement_51 : decode cX6_implement 51 = .ok (.getfield 76, 3) := by decide +kernel
theorem dX6_implement_54 : decode cX6_implement 54 = .ok (.if_icmp .ge 21, 3) := by decide +kernel
theorem dX6_implement_57 : decode cX6_implement 57 = .ok (.aload 4, 2) := by decide +kernel
theorem dX6_implement_59 : decode cX6_implement 59 = .ok (.iload 5, 2) := by decide +kernel
theorem dX6_implement_61 : decode cX6_implement 61 = .ok (.aload_n 0, 1) := by decide +kernel
theorem dX6_implement_62 : decode cX6_implement 62 = .ok (.iload 5, 2) := by decide +kernel
theorem dX6_implement_64 : decode cX6_implement 64 = .ok (.iload_n 2, 1) := by decide +kernel
theorem dX6_implement_65 : decode cX6_implement 65 = .ok (.invokevirtual 117, 3) := by decide +kernel
theorem dX6_implement_68 : decode cX6_implement 68 = .ok (.iastore, 1) := by decide +kernel
theorem dX6_implement_69 : decode cX6_implement 69 = .ok (.iinc 5 1, 3) := by decide +kernel
theorem dX6_implement_72 : decode cX6_implement 72 = .ok (.goto (-24), 3) := by decide +kernel
theorem dX6_implement_75 : decode cX6_implement 75 = .ok (.aload_n 0, 1) := by decide +kernel
theorem dX6_implement_76 : decode cX6_implement 76 = .ok (.getfield 13, 3) := by decide +kernel
theorem dX6_implement_79 : decode cX6_implement 79 = .ok (.bipush 6, 2) := by decide +kernel
theorem dX6_implement_81 : decode cX6_implement 81 = .ok (.iload_n 1, 1) := by decide +kernel
theorem dX6_implement_82 : decode cX6_implement 82 = .ok (.imul, 1) := by decide +kernel
theorem dX6_implement_83 : decode cX6_implement 83 = .ok (.iload_n 2, 1) := by decide +kernel
theorem dX6_implement_84 : decode cX6_implement 84 = .ok (.iadd, 1) := by decide +kernel
theorem dX6_implement_85 : decode cX6_implement 85 = .ok (.iload_n 3, 1) := by decide +kernel
theorem dX6_implement_86 : decode cX6_implement 86 = .ok (.iastore, 1) := by decide +kernel
theorem dX6_implement_87 : decode cX6_implement 87 = .ok (.bipush 8, 2) := by decide +kernel
theorem dX6_implement_89 : decode cX6_implement 89 = .ok (.newarray .boolean, 2) := by decide +kernel
theorem dX6_implement_91 : decode cX6_implement 91 = .ok (.astore 5, 2) := by decide +kernel
theorem dX6_implement_93 : decode cX6_implement 93 = .ok (.iconst 0, 1) := by decide +kernel
theorem dX6_implement_94 : decode cX6_implement 94 = .ok (.istore 6, 2) := by decide +kernel
theorem dX6_implement_96 : decode cX6_implement 96 = .ok (.iload 6, 2) := by decide +kernel
theorem dX6_implement_98 : decode cX6_implement 98 = .ok (.aload_n 0, 1) := by decide +kernel
theorem dX6_implement_99 : decode cX6_implement 99 = .ok (.getfield 76, 3) := by decide +kernel
theorem dX6_implement_102 : decode cX6_implement 102 = .ok (.if_icmp .ge 34, 3) := by decide +kernel
theorem dX6_implement_105 : decode cX6_implement 105 = .ok (.aload 5, 2) := by decide +kernel
theorem dX6_implement_107 : decode cX6_implement 107 = .ok (.iload 6, 2) := by decide +kernel
theorem dX6_implement_109 : decode cX6_implement 109 = .ok (.aload_n 0, 1) := by decide +kernel
theorem dX6_implement_110 : decode cX6_implement 110 = .ok (.iload 6, 2) := by decide +kernel
theorem dX6_implement_112 : decode cX6_implement 112 = .ok (.iload_n 2, 1) := by decide +kernel
theorem dX6_implement_113 : decode cX6_implement 113 = .ok (.invokevirtual 117, 3) := by decide +kernel
theorem dX6_implement_116 : decode cX6_implement 116 = .ok (.aload 4, 2) := by decide +kernel
theorem dX6_implement_118 : decode cX6_implement 118 = .ok (.iload 6, 2) := by decide +kernel
theorem dX6_implement_120 : decode cX6_implement 120 = .ok (.iaload, 1) := by decide +kernel
theorem dX6_implement_121 : decode cX6_implement 121 = .ok (.if_icmp .eq 7, 3) := by decide +kernel
theorem dX6_implement_124 : decode cX6_implement 124 = .ok (.iconst 1, 1) := by decide +kernel
theorem dX6_implement_125 : decode cX6_implement 125 = .ok (.goto 4, 3) := by decide +kernel
theorem dX6_implement_128 : decode cX6_implement 128 = .ok (.iconst 0, 1) := by decide +kernel
theorem dX6_implement_129 : decode cX6_implement 129 = .ok (.bastore, 1) := by decide +kernel
theorem dX6_implement_130 : decode cX6_implement 130 = .ok (.iinc 6 1, 3) := by decide +kernel
theorem dX6_implement_133 : decode cX6_implement 133 = .ok (.goto (-37), 3) := by decide +kernel
theorem dX6_implement_136 : decode cX6_implement 136 = .ok (.iconst 0, 1) := by decide +kernel
theorem dX6_implement_137 : decode cX6_implement 137 = .ok (.istore 6, 2) := by decide +kernel
theorem dX6_implement_139 : decode cX6_implement 139 = .ok (.iconst 0, 1) := by decide +kernel
theorem dX6_implement_140 : decode cX6_implement 140 = .ok (.istore 7, 2) := by decide +kernel
theorem dX6_implement_142 : decode cX6_implement 142 = .ok (.iload 7, 2) := by decide +kernel
theorem dX6_implement_144 : decode cX6_implement 144 = .ok (.aload_n 0, 1) := by decide +kernel
theorem dX6_implement_145 : decode cX6_implement 145 = .ok (.getfield 79, 3) := by decide +kernel
theorem dX6_implement_148 : decode cX6_implement 148 = .ok (.if_icmp .ge 54, 3) := by decide +kernel
theorem dX6_implement_151 : decode cX6_implement 151 = .ok (.aload_n 0, 1) := by decide +kernel
theorem dX6_implement_152 : decode cX6_implement 152 = .ok (.getfield 32, 3) := by decide +kernel
theorem dX6_implement_155 : decode cX6_implement 155 = .ok (.iload 7, 2) := by decide +kernel
theorem dX6_implement_157 : decode cX6_implement 157 = .ok (.iaload, 1) := by decide +kernel
theorem dX6_implement_158 : decode cX6_implement 158 = .ok (.iconst 2, 1) := by decide +kernel
theorem dX6_implement_159 : decode cX6_implement 159 = .ok (.if_icmp .ne 37, 3) := by decide +kernel
theorem dX6_implement_162 : decode cX6_implement 162 = .ok (.aload_n 0, 1) := by decide +kernel
theorem dX6_implement_163 : decode cX6_implement 163 = .ok (.iload 7, 2) := by decide +kernel
theorem dX6_implement_165 : decode cX6_implement 165 = .ok (.iload_n 2, 1) := by decide +kernel
theorem dX6_implement_166 : decode cX6_implement 166 = .ok (.aload 5, 2) := by decide +kernel
theorem dX6_implement_168 : decode cX6_implement 168 = .ok (.invokevirtual 120, 3) := by decide +kernel
theorem dX6_implement_171 : decode cX6_implement 171 = .ok (.ifCond .ne 6, 3) := by decide +kernel
theorem dX6_implement_174 : decode cX6_implement 174 = .ok (.goto 22, 3) := by decide +kernel
theorem dX6_implement_177 : decode cX6_implement 177 = .ok (.aload_n 0, 1) := by decide +kernel
theorem dX6_implement_178 : decode cX6_implement 178 = .ok (.getfield 32, 3) := by decide +kernel
theorem dX6_implement_181 : decode cX6_implement 181 = .ok (.iload 7, 2) := by decide +kernel
theorem dX6_implement_183 : decode cX6_implement 183 = .ok (.iconst 0, 1) := by decide +kernel
theorem dX6_implement_184 : decode cX6_implement 184 = .ok (.iastore, 1) := by decide +kernel
theorem dX6_implement_185 : decode cX6_implement 185 = .ok (.aload_n 0, 1) := by decide +kernel
theorem dX6_implement_186 : decode cX6_implement 186 = .ok (.getfield 35, 3) := by decide +kernel
theorem dX6_implement_189 : decode cX6_implement 189 = .ok (.iload 7, 2) := by decide +kernel
theorem dX6_implement_191 : decode cX6_implement 191 = .ok (.iconst 0, 1) := by decide +kernel
theorem dX6_implement_192 : decode cX6_implement 192 = .ok (.iastore, 1) := by decide +kernel
theorem dX6_implement_193 : decode cX6_implement 193 = .ok (.iinc 6 1, 3) := by decide +kernel
theorem dX6_implement_196 : decode cX6_implement 196 = .ok (.iinc 7 1, 3) := by decide +kernel
theorem dX6_implement_199 : decode cX6_implement 199 = .ok (.goto (-57), 3) := by decide +kernel
theorem dX6_implement_202 : decode cX6_implement 202 = .ok (.iload 6, 2) := by decide +kernel
theorem dX6_implement_204 : decode cX6_implement 204 = .ok (.ireturn, 1) := by decide +kernel
theorem dX6_trusts_0 : decode cX6_trusts 0 = .ok (.iconst 0, 1) := by decide +kernel
theorem dX6_trusts_1 : decode cX6_trusts 1 = .ok (.istore 4, 2) := by decide +kernel
theorem dX6_trusts_3 : decode cX6_trusts 3 = .ok (.iconst 0, 1) := by decide +kernel
theorem dX6_trusts_4 : decode cX6_trusts 4 = .ok (.istore 5, 2) := by decide +kernel
theorem dX6_trusts_6 : decode cX6_trusts 6 = .ok (.iload 5, 2) := by decide +kernel
theorem dX6_trusts_8 : decode cX6_trusts 8 = .ok (.aload_n 0, 1) := by decide +kernel
theorem dX6_trusts_9 : decode cX6_trusts 9 = .ok (.getfield 16, 3) := by decide +kernel
theorem dX6_trusts_12 : decode cX6_trusts 12 = .ok (.iload_n 1, 1) := by decide +kernel
theorem dX6_trusts_13 : decode cX6_trusts 13 = .ok (.iaload, 1) := by decide +kernel
theorem dX6_trusts_14 : decode cX6_trusts 14 = .ok (.if_icmp .ge 108, 3) := by decide +kernel
theorem dX6_trusts_17 : decode cX6_trusts 17 = .ok (.sipush 240, 3) := by decide +kernel
theorem dX6_trusts_20 : decode cX6_trusts 20 = .ok (.bipush 20, 2) := by decide +kernel
theorem dX6_trusts_22 : decode cX6_trusts 22 = .ok (.iload_n 1, 1) := by decide +kernel
theorem dX6_trusts_23 : decode cX6_trusts 23 = .ok (.imul, 1) := by decide +kernel
theorem dX6_trusts_24 : decode cX6_trusts 24 = .ok (.iadd, 1) := by decide +kernel
theorem dX6_trusts_25 : decode cX6_trusts 25 = .ok (.iload 5, 2) := by decide +kernel
theorem dX6_trusts_27 : decode cX6_trusts 27 = .ok (.iadd, 1) := by decide +kernel
theorem dX6_trusts_28 : decode cX6_trusts 28 = .ok (.istore 6, 2) := by decide +kernel
theorem dX6_trusts_30 : decode cX6_trusts 30 = .ok (.aload_n 0, 1) := by decide +kernel
theorem dX6_trusts_31 : decode cX6_trusts 31 = .ok (.iload_n 1, 1) := by decide +kernel
theorem dX6_trusts_32 : decode cX6_trusts 32 = .ok (.iload 5, 2) := by decide +kernel
theorem dX6_trusts_34 : decode cX6_trusts 34 = .ok (.invokevirtual 124, 3) := by decide +kernel
theorem dX6_trusts_37 : decode cX6_trusts 37 = .ok (.iconst 5, 1) := by decide +kernel
theorem dX6_trusts_38 : decode cX6_trusts 38 = .ok (.if_icmp .ne 78, 3) := by decide +kernel
theorem dX6_trusts_41 : decode cX6_trusts 41 = .ok (.aload_n 0, 1) := by decide +kernel
theorem dX6_trusts_42 : decode cX6_trusts 42 = .ok (.iload_n 1, 1) := by decide +kernel
theorem dX6_trusts_43 : decode cX6_trusts 43 = .ok (.iload 5, 2) := by decide +kernel
theorem dX6_trusts_45 : decode cX6_trusts 45 = .ok (.iconst 2, 1) := by decide +kernel
theorem dX6_trusts_46 : decode cX6_trusts 46 = .ok (.invokevirtual 127, 3) := by decide +kernel
theorem dX6_trusts_49 : decode cX6_trusts 49 = .ok (.iload_n 2, 1) := by decide +kernel
theorem dX6_trusts_50 : decode cX6_trusts 50 = .ok (.if_icmp .ne 66, 3) := by decide +kernel
theorem dX6_trusts_53 : decode cX6_trusts 53 = .ok (.aload_n 0, 1) := by decide +kernel
theorem dX6_trusts_54 : decode cX6_trusts 54 = .ok (.getfield 47, 3) := by decide +kernel
theorem dX6_trusts_57 : decode cX6_trusts 57 = .ok (.iload 6, 2) := by decide +kernel
theorem dX6_trusts_59 : decode cX6_trusts 59 = .ok (.baload, 1) := by decide +kernel
theorem dX6_trusts_60 : decode cX6_trusts 60 = .ok (.ifCond .eq 6, 3) := by decide +kernel
theorem dX6_trusts_63 : decode cX6_trusts 63 = .ok (.goto 53, 3) := by decide +kernel
theorem dX6_trusts_66 : decode cX6_trusts 66 = .ok (.iconst 0, 1) := by decide +kernel
theorem dX6_trusts_67 : decode cX6_trusts 67 = .ok (.istore 7, 2) := by decide +kernel
theorem dX6_trusts_69 : decode cX6_trusts 69 = .ok (.iload 7, 2) := by decide +kernel
theorem dX6_trusts_71 : decode cX6_trusts 71 = .ok (.aload_n 0, 1) := by decide +kernel
theorem dX6_trusts_72 : decode cX6_trusts 72 = .ok (.getfield 41, 3) := by decide +kernel
theorem dX6_trusts_75 : decode cX6_trusts 75 = .ok (.iload 6, 2) := by decide +kernel
theorem dX6_trusts_77 : decode cX6_trusts 77 = .ok (.iaload, 1) := by decide +kernel
theorem dX6_trusts_78 : decode cX6_trusts 78 = .ok (.if_icmp .ge 38, 3) := by decide +kernel
theorem dX6_trusts_81 : decode cX6_trusts 81 = .ok (.iload 4, 2) := by decide +kernel
theorem dX6_trusts_83 : decode cX6_trusts 83 = .ok (.ifCond .ne 20, 3) := by decide +kernel
theorem dX6_trusts_86 : decode cX6_trusts 86 = .ok (.aload_n 3, 1) := by decide +kernel
theorem dX6_trusts_87 : decode cX6_trusts 87 = .ok (.aload_n 0, 1) := by decide +kernel
theorem dX6_trusts_88 : decode cX6_trusts 88 = .ok (.getfield 44, 3) := by decide +kernel
theorem dX6_trusts_91 : decode cX6_trusts 91 = .ok (.iconst 3, 1) := by decide +kernel
theorem dX6_trusts_92 : decode cX6_trusts 92 = .ok (.iload 6, 2) := by decide +kernel
theorem dX6_trusts_94 : decode cX6_trusts 94 = .ok (.imul, 1) := by decide +kernel
theorem dX6_trusts_95 : decode cX6_trusts 95 = .ok (.iload 7, 2) := by decide +kernel
theorem dX6_trusts_97 : decode cX6_trusts 97 = .ok (.iadd, 1) := by decide +kernel
theorem dX6_trusts_98 : decode cX6_trusts 98 = .ok (.iaload, 1) := by decide +kernel
theorem dX6_trusts_99 : decode cX6_trusts 99 = .ok (.baload, 1) := by decide +kernel
theorem dX6_trusts_100 : decode cX6_trusts 100 = .ok (.ifCond .eq 7, 3) := by decide +kernel
theorem dX6_trusts_103 : decode cX6_trusts 103 = .ok (.iconst 1, 1) := by decide +kernel
theorem dX6_trusts_104 : decode cX6_trusts 104 = .ok (.goto 4, 3) := by decide +kernel
theorem dX6_trusts_107 : decode cX6_trusts 107 = .ok (.iconst 0, 1) := by decide +kernel
theorem dX6_trusts_108 : decode cX6_trusts 108 = .ok (.istore 4, 2) := by decide +kernel
theorem dX6_trusts_110 : decode cX6_trusts 110 = .ok (.iinc 7 1, 3) := by decide +kernel
theorem dX6_trusts_113 : decode cX6_trusts 113 = .ok (.goto (-44), 3) := by decide +kernel
theorem dX6_trusts_116 : decode cX6_trusts 116 = .ok (.iinc 5 1, 3) := by decide +kernel
theorem dX6_trusts_119 : decode cX6_trusts 119 = .ok (.goto (-113), 3) := by decide +kernel
theorem dX6_trusts_122 : decode cX6_trusts 122 = .ok (.iload 4, 2) := by decide +kernel
theorem dX6_trusts_124 : decode cX6_trusts 124 = .ok (.ireturn, 1) := by decide +kernel
theorem dX6_understands_0 : decode cX6_understands 0 = .ok (.aload_n 0, 1) := by decide +kernel
theorem dX6_understands_1 : decode cX6_understands 1 = .ok (.iconst 0, 1) := by decide +kernel
theorem dX6_understands_2 : decode cX6_understands 2 = .ok (.putfield 73, 3) := by decide +kernel
theorem dX6_understands_5 : decode cX6_understands 5 = .ok (.aload_n 0, 1) := by decide +kernel
theorem dX6_understands_6 : decode cX6_understands 6 = .ok (.iload_n 1, 1) := by decide +kernel
theorem dX6_understands_7 : decode cX6_understands 7 = .ok (.invokevirtual 82, 3) := by decide +kernel
theorem dX6_understands_10 : decode cX6_understands 10 = .ok (.ifCond .eq 19, 3) := by decide +kernel
theorem dX6_understands_13 : decode cX6_understands 13 = .ok (.iload_n 2, 1) := by decide +kernel
theorem dX6_understands_14 : decode cX6_understands 14 = .ok (.invokestatic 97, 3) := by decide +kernel
theorem dX6_understands_17 : decode cX6_understands 17 = .ok (.ifCond .eq 12, 3) := by decide +kernel
theorem dX6_understands_20 : decode cX6_understands 20 = .ok (.aload_n 0, 1) := by decide +kernel
theorem dX6_understands_21 : decode cX6_understands 21 = .ok (.iload_n 1, 1) := by decide +kernel
theorem dX6_understands_22 : decode cX6_understands 22 = .ok (.iload_n 2, 1) := by decide +kernel
theorem dX6_understands_23 : decode cX6_understands 23 = .ok (.invokevirtual 117, 3) := by decide +kernel
theorem dX6_understands_26 : decode cX6_understands 26 = .ok (.goto 8, 3) := by decide +kernel
theorem dX6_understands_29 : decode cX6_understands 29 = .ok (.aload_n 0, 1) := by decide +kernel
theorem dX6_understands_30 : decode cX6_understands 30 = .ok (.iconst 1, 1) := by decide +kernel
theorem dX6_understands_31 : decode cX6_understands 31 = .ok (.invokevirtual 86, 3) := by decide +kernel
theorem dX6_understands_34 : decode cX6_understands 34 = .ok (.ireturn, 1) := by decide +kernel
theorem dX6_setPolicy_0 : decode cX6_setPolicy 0 = .ok (.aload_n 0, 1) := by decide +kernel
theorem dX6_setPolicy_1 : decode cX6_setPolicy 1 = .ok (.iconst 0, 1) := by decide +kernel
theorem dX6_setPolicy_2 : decode cX6_setPolicy 2 = .ok (.putfield 73, 3) := by decide +kernel
theorem dX6_setPolicy_5 : decode cX6_setPolicy 5 = .ok (.iload_n 1, 1) := by decide +kernel
theorem dX6_setPolicy_6 : decode cX6_setPolicy 6 = .ok (.iconst 1, 1) := by decide +kernel
theorem dX6_setPolicy_7 : decode cX6_setPolicy 7 = .ok (.if_icmp .lt 31, 3) := by decide +kernel
theorem dX6_setPolicy_10 : decode cX6_setPolicy 10 = .ok (.iload_n 1, 1) := by decide +kernel
theorem dX6_setPolicy_11 : decode cX6_setPolicy 11 = .ok (.sipush 1000, 3) := by decide +kernel
theorem dX6_setPolicy_14 : decode cX6_setPolicy 14 = .ok (.if_icmp .gt 24, 3) := by decide +kernel
theorem dX6_setPolicy_17 : decode cX6_setPolicy 17 = .ok (.iload_n 2, 1) := by decide +kernel
theorem dX6_setPolicy_18 : decode cX6_setPolicy 18 = .ok (.iconst 1, 1) := by decide +kernel
theorem dX6_setPolicy_19 : decode cX6_setPolicy 19 = .ok (.if_icmp .lt 19, 3) := by decide +kernel
theorem dX6_setPolicy_22 : decode cX6_setPolicy 22 = .ok (.iload_n 2, 1) := by decide +kernel
theorem dX6_setPolicy_23 : decode cX6_setPolicy 23 = .ok (.sipush 1000, 3) := by decide +kernel
theorem dX6_setPolicy_26 : decode cX6_setPolicy 26 = .ok (.if_icmp .gt 12, 3) := by decide +kernel
theorem dX6_setPolicy_29 : decode cX6_setPolicy 29 = .ok (.iload_n 3, 1) := by decide +kernel
theorem dX6_setPolicy_30 : decode cX6_setPolicy 30 = .ok (.ifCond .lt 8, 3) := by decide +kernel
theorem dX6_setPolicy_33 : decode cX6_setPolicy 33 = .ok (.iload_n 3, 1) := by decide +kernel
theorem dX6_setPolicy_34 : decode cX6_setPolicy 34 = .ok (.iconst 5, 1) := by decide +kernel
theorem dX6_setPolicy_35 : decode cX6_setPolicy 35 = .ok (.if_icmp .le 17, 3) := by decide +kernel
theorem dX6_setPolicy_38 : decode cX6_setPolicy 38 = .ok (.aload_n 0, 1) := by decide +kernel
theorem dX6_setPolicy_39 : decode cX6_setPolicy 39 = .ok (.iconst 1, 1) := by decide +kernel
theorem dX6_setPolicy_40 : decode cX6_setPolicy 40 = .ok (.invokevirtual 86, 3) := by decide +kernel
theorem dX6_setPolicy_43 : decode cX6_setPolicy 43 = .ok (.ifCond .eq 7, 3) := by decide +kernel
theorem dX6_setPolicy_46 : decode cX6_setPolicy 46 = .ok (.iconst 1, 1) := by decide +kernel
theorem dX6_setPolicy_47 : decode cX6_setPolicy 47 = .ok (.goto 4, 3) := by decide +kernel
theorem dX6_setPolicy_50 : decode cX6_setPolicy 50 = .ok (.iconst 0, 1) := by decide +kernel
theorem dX6_setPolicy_51 : decode cX6_setPolicy 51 = .ok (.ireturn, 1) := by decide +kernel
theorem dX6_setPolicy_52 : decode cX6_setPolicy 52 = .ok (.aload_n 0, 1) := by decide +kernel
theorem dX6_setPolicy_53 : decode cX6_setPolicy 53 = .ok (.getfield 22, 3) := by decide +kernel
theorem dX6_setPolicy_56 : decode cX6_setPolicy 56 = .ok (.iload_n 1, 1) := by decide +kernel
theorem dX6_setPolicy_57 : decode cX6_setPolicy 57 = .ok (.if_icmp .ne 19, 3) := by decide +kernel
theorem dX6_setPolicy_60 : decode cX6_setPolicy 60 = .ok (.aload_n 0, 1) := by decide +kernel
theorem dX6_setPolicy_61 : decode cX6_setPolicy 61 = .ok (.getfield 26, 3) := by decide +kernel
theorem dX6_setPolicy_64 : decode cX6_setPolicy 64 = .ok (.iload_n 2, 1) := by decide +kernel
theorem dX6_setPolicy_65 : decode cX6_setPolicy 65 = .ok (.if_icmp .ne 11, 3) := by decide +kernel
theorem dX6_setPolicy_68 : decode cX6_setPolicy 68 = .ok (.aload_n 0, 1) := by decide +kernel
theorem dX6_setPolicy_69 : decode cX6_setPolicy 69 = .ok (.getfield 29, 3) := by decide +kernel
theorem dX6_setPolicy_72 : decode cX6_setPolicy 72 = .ok (.iload_n 3, 1) := by decide +kernel
theorem dX6_setPolicy_73 : decode cX6_setPolicy 73 = .ok (.if_icmp .eq 7, 3) := by decide +kernel
theorem dX6_setPolicy_76 : decode cX6_setPolicy 76 = .ok (.iconst 1, 1) := by decide +kernel
theorem dX6_setPolicy_77 : decode cX6_setPolicy 77 = .ok (.goto 4, 3) := by decide +kernel
theorem dX6_setPolicy_80 : decode cX6_setPolicy 80 = .ok (.iconst 0, 1) := by decide +kernel
theorem dX6_setPolicy_81 : decode cX6_setPolicy 81 = .ok (.istore 4, 2) := by decide +kernel
theorem dX6_setPolicy_83 : decode cX6_setPolicy 83 = .ok (.aload_n 0, 1) := by decide +kernel
theorem dX6_setPolicy_84 : decode cX6_setPolicy 84 = .ok (.iload_n 1, 1) := by decide +kernel
theorem dX6_setPolicy_85 : decode cX6_setPolicy 85 = .ok (.putfield 22, 3) := by decide +kernel
theorem dX6_setPolicy_88 : decode cX6_setPolicy 88 = .ok (.aload_n 0, 1) := by decide +kernel
theorem dX6_setPolicy_89 : decode cX6_setPolicy 89 = .ok (.iload_n 2, 1) := by decide +kernel
theorem dX6_setPolicy_90 : decode cX6_setPolicy 90 = .ok (.putfield 26, 3) := by decide +kernel
theorem dX6_setPolicy_93 : decode cX6_setPolicy 93 = .ok (.aload_n 0, 1) := by decide +kernel
theorem dX6_setPolicy_94 : decode cX6_setPolicy 94 = .ok (.iload_n 3, 1) := by decide +kernel
theorem dX6_setPolicy_95 : decode cX6_setPolicy 95 = .ok (.putfield 29, 3) := by decide +kernel
theorem dX6_setPolicy_98 : decode cX6_setPolicy 98 = .ok (.iload 4, 2) := by decide +kernel
theorem dX6_setPolicy_100 : decode cX6_setPolicy 100 = .ok (.ireturn, 1) := by decide +kernel
theorem dX6_forget_0 : decode cX6_forget 0 = .ok (.aload_n 0, 1) := by decide +kernel
theorem dX6_forget_1 : decode cX6_forget 1 = .ok (.iconst 0, 1) := by decide +kernel
theorem dX6_forget_2 : decode cX6_forget 2 = .ok (.putfield 73, 3) := by decide +kernel
theorem dX6_forget_5 : decode cX6_forget 5 = .ok (.iconst 0, 1) := by decide +kernel
theorem dX6_forget_6 : decode cX6_forget 6 = .ok (.istore_n 1, 1) := by decide +kernel
theorem dX6_forget_7 : decode cX6_forget 7 = .ok (.iconst 0, 1) := by decide +kernel
theorem dX6_forget_8 : decode cX6_forget 8 = .ok (.istore_n 2, 1) := by decide +kernel
theorem dX6_forget_9 : decode cX6_forget 9 = .ok (.iload_n 2, 1) := by decide +kernel
theorem dX6_forget_10 : decode cX6_forget 10 = .ok (.aload_n 0, 1) := by decide +kernel
theorem dX6_forget_11 : decode cX6_forget 11 = .ok (.getfield 79, 3) := by decide +kernel
theorem dX6_forget_14 : decode cX6_forget 14 = .ok (.if_icmp .ge 31, 3) := by decide +kernel
theorem dX6_forget_17 : decode cX6_forget 17 = .ok (.iload_n 1, 1) := by decide +kernel
theorem dX6_forget_18 : decode cX6_forget 18 = .ok (.aload_n 0, 1) := by decide +kernel
theorem dX6_forget_19 : decode cX6_forget 19 = .ok (.getfield 32, 3) := by decide +kernel
theorem dX6_forget_22 : decode cX6_forget 22 = .ok (.iload_n 2, 1) := by decide +kernel
theorem dX6_forget_23 : decode cX6_forget 23 = .ok (.iaload, 1) := by decide +kernel
theorem dX6_forget_24 : decode cX6_forget 24 = .ok (.ifCond .le 7, 3) := by decide +kernel
theorem dX6_forget_27 : decode cX6_forget 27 = .ok (.iconst 1, 1) := by decide +kernel
theorem dX6_forget_28 : decode cX6_forget 28 = .ok (.goto 4, 3) := by decide +kernel
theorem dX6_forget_31 : decode cX6_forget 31 = .ok (.iconst 0, 1) := by decide +kernel
theorem dX6_forget_32 : decode cX6_forget 32 = .ok (.iadd, 1) := by decide +kernel
theorem dX6_forget_33 : decode cX6_forget 33 = .ok (.istore_n 1, 1) := by decide +kernel
theorem dX6_forget_34 : decode cX6_forget 34 = .ok (.aload_n 0, 1) := by decide +kernel
theorem dX6_forget_35 : decode cX6_forget 35 = .ok (.iload_n 2, 1) := by decide +kernel
theorem dX6_forget_36 : decode cX6_forget 36 = .ok (.invokevirtual 110, 3) := by decide +kernel
theorem dX6_forget_39 : decode cX6_forget 39 = .ok (.iinc 2 1, 3) := by decide +kernel
theorem dX6_forget_42 : decode cX6_forget 42 = .ok (.goto (-33), 3) := by decide +kernel
theorem dX6_forget_45 : decode cX6_forget 45 = .ok (.iload_n 1, 1) := by decide +kernel
theorem dX6_forget_46 : decode cX6_forget 46 = .ok (.ireturn, 1) := by decide +kernel
theorem dX6_warm_0 : decode cX6_warm 0 = .ok (.aload_n 0, 1) := by decide +kernel
theorem dX6_warm_1 : decode cX6_warm 1 = .ok (.getfield 35, 3) := by decide +kernel
theorem dX6_warm_4 : decode cX6_warm 4 = .ok (.iload_n 1, 1) := by decide +kernel
theorem dX6_warm_5 : decode cX6_warm 5 = .ok (.dup2, 1) := by decide +kernel
theorem dX6_warm_6 : decode cX6_warm 6 = .ok (.iaload, 1) := by decide +kernel
theorem dX6_warm_7 : decode cX6_warm 7 = .ok (.iconst 1, 1) := by decide +kernel
theorem dX6_warm_8 : decode cX6_warm 8 = .ok (.iadd, 1) := by decide +kernel
theorem dX6_warm_9 : decode cX6_warm 9 = .ok (.iastore, 1) := by decide +kernel
theorem dX6_warm_10 : decode cX6_warm 10 = .ok (.aload_n 0, 1) := by decide +kernel
theorem dX6_warm_11 : decode cX6_warm 11 = .ok (.getfield 32, 3) := by decide +kernel
theorem dX6_warm_14 : decode cX6_warm 14 = .ok (.iload_n 1, 1) := by decide +kernel
theorem dX6_warm_15 : decode cX6_warm 15 = .ok (.iaload, 1) := by decide +kernel
theorem dX6_warm_16 : decode cX6_warm 16 = .ok (.ifCond .ne 53, 3) := by decide +kernel
theorem dX6_warm_19 : decode cX6_warm 19 = .ok (.aload_n 0, 1) := by decide +kernel
theorem dX6_warm_20 : decode cX6_warm 20 = .ok (.getfield 35, 3) := by decide +kernel
theorem dX6_warm_23 : decode cX6_warm 23 = .ok (.iload_n 1, 1) := by decide +kernel
theorem dX6_warm_24 : decode cX6_warm 24 = .ok (.iaload, 1) := by decide +kernel
theorem dX6_warm_25 : decode cX6_warm 25 = .ok (.aload_n 0, 1) := by decide +kernel
theorem dX6_warm_26 : decode cX6_warm 26 = .ok (.getfield 22, 3) := by decide +kernel
theorem dX6_warm_29 : decode cX6_warm 29 = .ok (.if_icmp .lt 40, 3) := by decide +kernel
theorem dX6_warm_32 : decode cX6_warm 32 = .ok (.aload_n 0, 1) := by decide +kernel
theorem dX6_warm_33 : decode cX6_warm 33 = .ok (.getfield 32, 3) := by decide +kernel
theorem dX6_warm_36 : decode cX6_warm 36 = .ok (.iload_n 1, 1) := by decide +kernel
theorem dX6_warm_37 : decode cX6_warm 37 = .ok (.iconst 1, 1) := by decide +kernel
theorem dX6_warm_38 : decode cX6_warm 38 = .ok (.iastore, 1) := by decide +kernel
theorem dX6_warm_39 : decode cX6_warm 39 = .ok (.aload_n 0, 1) := by decide +kernel
theorem dX6_warm_40 : decode cX6_warm 40 = .ok (.dup, 1) := by decide +kernel
theorem dX6_warm_41 : decode cX6_warm 41 = .ok (.getfield 131, 3) := by decide +kernel
theorem dX6_warm_44 : decode cX6_warm 44 = .ok (.ldc2_w 135, 3) := by decide +kernel
theorem dX6_warm_47 : decode cX6_warm 47 = .ok (.aload_n 0, 1) := by decide +kernel
theorem dX6_warm_48 : decode cX6_warm 48 = .ok (.getfield 16, 3) := by decide +kernel
theorem dX6_warm_51 : decode cX6_warm 51 = .ok (.iload_n 1, 1) := by decide +kernel
theorem dX6_warm_52 : decode cX6_warm 52 = .ok (.iaload, 1) := by decide +kernel
theorem dX6_warm_53 : decode cX6_warm 53 = .ok (.i2l, 1) := by decide +kernel
theorem dX6_warm_54 : decode cX6_warm 54 = .ok (.lmul, 1) := by decide +kernel
theorem dX6_warm_55 : decode cX6_warm 55 = .ok (.ladd, 1) := by decide +kernel
theorem dX6_warm_56 : decode cX6_warm 56 = .ok (.putfield 131, 3) := by decide +kernel
theorem dX6_warm_59 : decode cX6_warm 59 = .ok (.aload_n 0, 1) := by decide +kernel
theorem dX6_warm_60 : decode cX6_warm 60 = .ok (.getfield 51, 3) := by decide +kernel
theorem dX6_warm_63 : decode cX6_warm 63 = .ok (.iconst 0, 1) := by decide +kernel
theorem dX6_warm_64 : decode cX6_warm 64 = .ok (.dup2, 1) := by decide +kernel
theorem dX6_warm_65 : decode cX6_warm 65 = .ok (.laload, 1) := by decide +kernel
theorem dX6_warm_66 : decode cX6_warm 66 = .ok (.lconst 1, 1) := by decide +kernel
theorem dX6_warm_67 : decode cX6_warm 67 = .ok (.ladd, 1) := by decide +kernel
theorem dX6_warm_68 : decode cX6_warm 68 = .ok (.lastore, 1) := by decide +kernel
theorem dX6_warm_69 : decode cX6_warm 69 = .ok (.aload_n 0, 1) := by decide +kernel
theorem dX6_warm_70 : decode cX6_warm 70 = .ok (.getfield 32, 3) := by decide +kernel
theorem dX6_warm_73 : decode cX6_warm 73 = .ok (.iload_n 1, 1) := by decide +kernel
theorem dX6_warm_74 : decode cX6_warm 74 = .ok (.iaload, 1) := by decide +kernel
theorem dX6_warm_75 : decode cX6_warm 75 = .ok (.iconst 1, 1) := by decide +kernel
theorem dX6_warm_76 : decode cX6_warm 76 = .ok (.if_icmp .ne 29, 3) := by decide +kernel
theorem dX6_warm_79 : decode cX6_warm 79 = .ok (.aload_n 0, 1) := by decide +kernel
theorem dX6_warm_80 : decode cX6_warm 80 = .ok (.getfield 35, 3) := by decide +kernel
theorem dX6_warm_83 : decode cX6_warm 83 = .ok (.iload_n 1, 1) := by decide +kernel
theorem dX6_warm_84 : decode cX6_warm 84 = .ok (.iaload, 1) := by decide +kernel
theorem dX6_warm_85 : decode cX6_warm 85 = .ok (.aload_n 0, 1) := by decide +kernel
theorem dX6_warm_86 : decode cX6_warm 86 = .ok (.getfield 26, 3) := by decide +kernel
theorem dX6_warm_89 : decode cX6_warm 89 = .ok (.if_icmp .lt 16, 3) := by decide +kernel
theorem dX6_warm_92 : decode cX6_warm 92 = .ok (.aload_n 0, 1) := by decide +kernel
theorem dX6_warm_93 : decode cX6_warm 93 = .ok (.getfield 38, 3) := by decide +kernel
theorem dX6_warm_96 : decode cX6_warm 96 = .ok (.iload_n 1, 1) := by decide +kernel
theorem dX6_warm_97 : decode cX6_warm 97 = .ok (.iaload, 1) := by decide +kernel
theorem dX6_warm_98 : decode cX6_warm 98 = .ok (.aload_n 0, 1) := by decide +kernel
theorem dX6_warm_99 : decode cX6_warm 99 = .ok (.getfield 29, 3) := by decide +kernel
theorem dX6_warm_102 : decode cX6_warm 102 = .ok (.if_icmp .lt 4, 3) := by decide +kernel
theorem dX6_warm_105 : decode cX6_warm 105 = .ok (.return_, 1) := by decide +kernel
theorem dX6_warm_106 : decode cX6_warm 106 = .ok (.aload_n 0, 1) := by decide +kernel
theorem dX6_warm_107 : decode cX6_warm 107 = .ok (.getfield 32, 3) := by decide +kernel
theorem dX6_warm_110 : decode cX6_warm 110 = .ok (.iload_n 1, 1) := by decide +kernel
theorem dX6_warm_111 : decode cX6_warm 111 = .ok (.iconst 2, 1) := by decide +kernel
theorem dX6_warm_112 : decode cX6_warm 112 = .ok (.iastore, 1) := by decide +kernel
theorem dX6_warm_113 : decode cX6_warm 113 = .ok (.aload_n 0, 1) := by decide +kernel
theorem dX6_warm_114 : decode cX6_warm 114 = .ok (.dup, 1) := by decide +kernel
theorem dX6_warm_115 : decode cX6_warm 115 = .ok (.getfield 131, 3) := by decide +kernel
theorem dX6_warm_118 : decode cX6_warm 118 = .ok (.ldc2_w 137, 3) := by decide +kernel
theorem dX6_warm_121 : decode cX6_warm 121 = .ok (.aload_n 0, 1) := by decide +kernel
theorem dX6_warm_122 : decode cX6_warm 122 = .ok (.getfield 16, 3) := by decide +kernel
theorem dX6_warm_125 : decode cX6_warm 125 = .ok (.iload_n 1, 1) := by decide +kernel
theorem dX6_warm_126 : decode cX6_warm 126 = .ok (.iaload, 1) := by decide +kernel
theorem dX6_warm_127 : decode cX6_warm 127 = .ok (.i2l, 1) := by decide +kernel
theorem dX6_warm_128 : decode cX6_warm 128 = .ok (.lmul, 1) := by decide +kernel
theorem dX6_warm_129 : decode cX6_warm 129 = .ok (.ladd, 1) := by decide +kernel
theorem dX6_warm_130 : decode cX6_warm 130 = .ok (.putfield 131, 3) := by decide +kernel
theorem dX6_warm_133 : decode cX6_warm 133 = .ok (.aload_n 0, 1) := by decide +kernel
theorem dX6_warm_134 : decode cX6_warm 134 = .ok (.getfield 51, 3) := by decide +kernel
theorem dX6_warm_137 : decode cX6_warm 137 = .ok (.iconst 1, 1) := by decide +kernel
theorem dX6_warm_138 : decode cX6_warm 138 = .ok (.dup2, 1) := by decide +kernel
theorem dX6_warm_139 : decode cX6_warm 139 = .ok (.laload, 1) := by decide +kernel
theorem dX6_warm_140 : decode cX6_warm 140 = .ok (.lconst 1, 1) := by decide +kernel
theorem dX6_warm_141 : decode cX6_warm 141 = .ok (.ladd, 1) := by decide +kernel
theorem dX6_warm_142 : decode cX6_warm 142 = .ok (.lastore, 1) := by decide +kernel
theorem dX6_warm_143 : decode cX6_warm 143 = .ok (.iconst 0, 1) := by decide +kernel
theorem dX6_warm_144 : decode cX6_warm 144 = .ok (.istore_n 2, 1) := by decide +kernel
theorem dX6_warm_145 : decode cX6_warm 145 = .ok (.iload_n 2, 1) := by decide +kernel
theorem dX6_warm_146 : decode cX6_warm 146 = .ok (.bipush 20, 2) := by decide +kernel
theorem dX6_warm_148 : decode cX6_warm 148 = .ok (.if_icmp .ge 19, 3) := by decide +kernel
theorem dX6_warm_151 : decode cX6_warm 151 = .ok (.aload_n 0, 1) := by decide +kernel
theorem dX6_warm_152 : decode cX6_warm 152 = .ok (.bipush 20, 2) := by decide +kernel
theorem dX6_warm_154 : decode cX6_warm 154 = .ok (.iload_n 1, 1) := by decide +kernel
theorem dX6_warm_155 : decode cX6_warm 155 = .ok (.imul, 1) := by decide +kernel
theorem dX6_warm_156 : decode cX6_warm 156 = .ok (.iload_n 2, 1) := by decide +kernel
theorem dX6_warm_157 : decode cX6_warm 157 = .ok (.iadd, 1) := by decide +kernel
theorem dX6_warm_158 : decode cX6_warm 158 = .ok (.invokevirtual 139, 3) := by decide +kernel
theorem dX6_warm_161 : decode cX6_warm 161 = .ok (.iinc 2 1, 3) := by decide +kernel
theorem dX6_warm_164 : decode cX6_warm 164 = .ok (.goto (-19), 3) := by decide +kernel
theorem dX6_warm_167 : decode cX6_warm 167 = .ok (.return_, 1) := by decide +kernel
theorem dX6_trust_0 : decode cX6_trust 0 = .ok (.aload_n 0, 1) := by decide +kernel
theorem dX6_trust_1 : decode cX6_trust 1 = .ok (.getfield 41, 3) := by decide +kernel
theorem dX6_trust_4 : decode cX6_trust 4 = .ok (.sipush 240, 3) := by decide +kernel
theorem dX6_trust_7 : decode cX6_trust 7 = .ok (.iload_n 1, 1) := by decide +kernel
theorem dX6_trust_8 : decode cX6_trust 8 = .ok (.iadd, 1) := by decide +kernel
theorem dX6_trust_9 : decode cX6_trust 9 = .ok (.aload_n 0, 1) := by decide +kernel
theorem dX6_trust_10 : decode cX6_trust 10 = .ok (.getfield 41, 3) := by decide +kernel
theorem dX6_trust_13 : decode cX6_trust 13 = .ok (.iload_n 1, 1) := by decide +kernel
theorem dX6_trust_14 : decode cX6_trust 14 = .ok (.iaload, 1) := by decide +kernel
theorem dX6_trust_15 : decode cX6_trust 15 = .ok (.iastore, 1) := by decide +kernel
theorem dX6_trust_16 : decode cX6_trust 16 = .ok (.aload_n 0, 1) := by decide +kernel
theorem dX6_trust_17 : decode cX6_trust 17 = .ok (.getfield 47, 3) := by decide +kernel
theorem dX6_trust_20 : decode cX6_trust 20 = .ok (.sipush 240, 3) := by decide +kernel
theorem dX6_trust_23 : decode cX6_trust 23 = .ok (.iload_n 1, 1) := by decide +kernel
theorem dX6_trust_24 : decode cX6_trust 24 = .ok (.iadd, 1) := by decide +kernel
theorem dX6_trust_25 : decode cX6_trust 25 = .ok (.aload_n 0, 1) := by decide +kernel
theorem dX6_trust_26 : decode cX6_trust 26 = .ok (.getfield 47, 3) := by decide +kernel
theorem dX6_trust_29 : decode cX6_trust 29 = .ok (.iload_n 1, 1) := by decide +kernel
theorem dX6_trust_30 : decode cX6_trust 30 = .ok (.baload, 1) := by decide +kernel
theorem dX6_trust_31 : decode cX6_trust 31 = .ok (.bastore, 1) := by decide +kernel
theorem dX6_trust_32 : decode cX6_trust 32 = .ok (.iconst 0, 1) := by decide +kernel
theorem dX6_trust_33 : decode cX6_trust 33 = .ok (.istore_n 2, 1) := by decide +kernel
theorem dX6_trust_34 : decode cX6_trust 34 = .ok (.iload_n 2, 1) := by decide +kernel
theorem dX6_trust_35 : decode cX6_trust 35 = .ok (.iconst 3, 1) := by decide +kernel
theorem dX6_trust_36 : decode cX6_trust 36 = .ok (.if_icmp .ge 33, 3) := by decide +kernel
theorem dX6_trust_39 : decode cX6_trust 39 = .ok (.aload_n 0, 1) := by decide +kernel
theorem dX6_trust_40 : decode cX6_trust 40 = .ok (.getfield 44, 3) := by decide +kernel
theorem dX6_trust_43 : decode cX6_trust 43 = .ok (.iconst 3, 1) := by decide +kernel
theorem dX6_trust_44 : decode cX6_trust 44 = .ok (.sipush 240, 3) := by decide +kernel
theorem dX6_trust_47 : decode cX6_trust 47 = .ok (.iload_n 1, 1) := by decide +kernel
theorem dX6_trust_48 : decode cX6_trust 48 = .ok (.iadd, 1) := by decide +kernel
theorem dX6_trust_49 : decode cX6_trust 49 = .ok (.imul, 1) := by decide +kernel
theorem dX6_trust_50 : decode cX6_trust 50 = .ok (.iload_n 2, 1) := by decide +kernel
theorem dX6_trust_51 : decode cX6_trust 51 = .ok (.iadd, 1) := by decide +kernel
theorem dX6_trust_52 : decode cX6_trust 52 = .ok (.aload_n 0, 1) := by decide +kernel
theorem dX6_trust_53 : decode cX6_trust 53 = .ok (.getfield 44, 3) := by decide +kernel
theorem dX6_trust_56 : decode cX6_trust 56 = .ok (.iconst 3, 1) := by decide +kernel
theorem dX6_trust_57 : decode cX6_trust 57 = .ok (.iload_n 1, 1) := by decide +kernel
theorem dX6_trust_58 : decode cX6_trust 58 = .ok (.imul, 1) := by decide +kernel
theorem dX6_trust_59 : decode cX6_trust 59 = .ok (.iload_n 2, 1) := by decide +kernel
theorem dX6_trust_60 : decode cX6_trust 60 = .ok (.iadd, 1) := by decide +kernel
theorem dX6_trust_61 : decode cX6_trust 61 = .ok (.iaload, 1) := by decide +kernel
theorem dX6_trust_62 : decode cX6_trust 62 = .ok (.iastore, 1) := by decide +kernel
theorem dX6_trust_63 : decode cX6_trust 63 = .ok (.iinc 2 1, 3) := by decide +kernel
theorem dX6_trust_66 : decode cX6_trust 66 = .ok (.goto (-32), 3) := by decide +kernel
theorem dX6_trust_69 : decode cX6_trust 69 = .ok (.return_, 1) := by decide +kernel
theorem dX6_indexOf_0 : decode cX6_indexOf 0 = .ok (.iconst 0, 1) := by decide +kernel
theorem dX6_indexOf_1 : decode cX6_indexOf 1 = .ok (.istore_n 3, 1) := by decide +kernel
theorem dX6_indexOf_2 : decode cX6_indexOf 2 = .ok (.iload_n 3, 1) := by decide +kernel
theorem dX6_indexOf_3 : decode cX6_indexOf 3 = .ok (.aload_n 0, 1) := by decide +kernel
theorem dX6_indexOf_4 : decode cX6_indexOf 4 = .ok (.getfield 41, 3) := by decide +kernel
theorem dX6_indexOf_7 : decode cX6_indexOf 7 = .ok (.iload_n 1, 1) := by decide +kernel
theorem dX6_indexOf_8 : decode cX6_indexOf 8 = .ok (.iaload, 1) := by decide +kernel
theorem dX6_indexOf_9 : decode cX6_indexOf 9 = .ok (.if_icmp .ge 25, 3) := by decide +kernel
theorem dX6_indexOf_12 : decode cX6_indexOf 12 = .ok (.aload_n 0, 1) := by decide +kernel
theorem dX6_indexOf_13 : decode cX6_indexOf 13 = .ok (.getfield 44, 3) := by decide +kernel
theorem dX6_indexOf_16 : decode cX6_indexOf 16 = .ok (.iconst 3, 1) := by decide +kernel
theorem dX6_indexOf_17 : decode cX6_indexOf 17 = .ok (.iload_n 1, 1) := by decide +kernel
theorem dX6_indexOf_18 : decode cX6_indexOf 18 = .ok (.imul, 1) := by decide +kernel
theorem dX6_indexOf_19 : decode cX6_indexOf 19 = .ok (.iload_n 3, 1) := by decide +kernel
theorem dX6_indexOf_20 : decode cX6_indexOf 20 = .ok (.iadd, 1) := by decide +kernel
theorem dX6_indexOf_21 : decode cX6_indexOf 21 = .ok (.iaload, 1) := by decide +kernel
theorem dX6_indexOf_22 : decode cX6_indexOf 22 = .ok (.iload_n 2, 1) := by decide +kernel
theorem dX6_indexOf_23 : decode cX6_indexOf 23 = .ok (.if_icmp .ne 5, 3) := by decide +kernel
theorem dX6_indexOf_26 : decode cX6_indexOf 26 = .ok (.iload_n 3, 1) := by decide +kernel
theorem dX6_indexOf_27 : decode cX6_indexOf 27 = .ok (.ireturn, 1) := by decide +kernel
theorem dX6_indexOf_28 : decode cX6_indexOf 28 = .ok (.iinc 3 1, 3) := by decide +kernel
theorem dX6_indexOf_31 : decode cX6_indexOf 31 = .ok (.goto (-29), 3) := by decide +kernel
theorem dX6_indexOf_34 : decode cX6_indexOf 34 = .ok (.iconst (-1), 1) := by decide +kernel
theorem dX6_indexOf_35 : decode cX6_indexOf 35 = .ok (.ireturn, 1) := by decide +kernel
theorem dX6_note_0 : decode cX6_note 0 = .ok (.aload_n 0, 1) := by decide +kernel
theorem dX6_note_1 : decode cX6_note 1 = .ok (.iload_n 1, 1) := by decide +kernel
theorem dX6_note_2 : decode cX6_note 2 = .ok (.iload_n 2, 1) := by decide +kernel
theorem dX6_note_3 : decode cX6_note 3 = .ok (.invokevirtual 142, 3) := by decide +kernel
theorem dX6_note_6 : decode cX6_note 6 = .ok (.iconst (-1), 1) := by decide +kernel
theorem dX6_note_7 : decode cX6_note 7 = .ok (.if_icmp .eq 4, 3) := by decide +kernel
theorem dX6_note_10 : decode cX6_note 10 = .ok (.return_, 1) := by decide +kernel
theorem dX6_note_11 : decode cX6_note 11 = .ok (.aload_n 0, 1) := by decide +kernel
theorem dX6_note_12 : decode cX6_note 12 = .ok (.getfield 41, 3) := by decide +kernel
theorem dX6_note_15 : decode cX6_note 15 = .ok (.iload_n 1, 1) := by decide +kernel
theorem dX6_note_16 : decode cX6_note 16 = .ok (.iaload, 1) := by decide +kernel
theorem dX6_note_17 : decode cX6_note 17 = .ok (.iconst 3, 1) := by decide +kernel
theorem dX6_note_18 : decode cX6_note 18 = .ok (.if_icmp .ne 11, 3) := by decide +kernel
theorem dX6_note_21 : decode cX6_note 21 = .ok (.aload_n 0, 1) := by decide +kernel
theorem dX6_note_22 : decode cX6_note 22 = .ok (.getfield 47, 3) := by decide +kernel
theorem dX6_note_25 : decode cX6_note 25 = .ok (.iload_n 1, 1) := by decide +kernel
theorem dX6_note_26 : decode cX6_note 26 = .ok (.iconst 1, 1) := by decide +kernel
theorem dX6_note_27 : decode cX6_note 27 = .ok (.bastore, 1) := by decide +kernel
theorem dX6_note_28 : decode cX6_note 28 = .ok (.return_, 1) := by decide +kernel
theorem dX6_note_29 : decode cX6_note 29 = .ok (.aload_n 0, 1) := by decide +kernel
theorem dX6_note_30 : decode cX6_note 30 = .ok (.getfield 44, 3) := by decide +kernel
theorem dX6_note_33 : decode cX6_note 33 = .ok (.iconst 3, 1) := by decide +kernel
theorem dX6_note_34 : decode cX6_note 34 = .ok (.iload_n 1, 1) := by decide +kernel
theorem dX6_note_35 : decode cX6_note 35 = .ok (.imul, 1) := by decide +kernel
theorem dX6_note_36 : decode cX6_note 36 = .ok (.aload_n 0, 1) := by decide +kernel
theorem dX6_note_37 : decode cX6_note 37 = .ok (.getfield 41, 3) := by decide +kernel
theorem dX6_note_40 : decode cX6_note 40 = .ok (.iload_n 1, 1) := by decide +kernel
theorem dX6_note_41 : decode cX6_note 41 = .ok (.iaload, 1) := by decide +kernel
theorem dX6_note_42 : decode cX6_note 42 = .ok (.iadd, 1) := by decide +kernel
theorem dX6_note_43 : decode cX6_note 43 = .ok (.iload_n 2, 1) := by decide +kernel
theorem dX6_note_44 : decode cX6_note 44 = .ok (.iastore, 1) := by decide +kernel
theorem dX6_note_45 : decode cX6_note 45 = .ok (.aload_n 0, 1) := by decide +kernel
theorem dX6_note_46 : decode cX6_note 46 = .ok (.getfield 41, 3) := by decide +kernel
theorem dX6_note_49 : decode cX6_note 49 = .ok (.iload_n 1, 1) := by decide +kernel
theorem dX6_note_50 : decode cX6_note 50 = .ok (.dup2, 1) := by decide +kernel
theorem dX6_note_51 : decode cX6_note 51 = .ok (.iaload, 1) := by decide +kernel
theorem dX6_note_52 : decode cX6_note 52 = .ok (.iconst 1, 1) := by decide +kernel
theorem dX6_note_53 : decode cX6_note 53 = .ok (.iadd, 1) := by decide +kernel
theorem dX6_note_54 : decode cX6_note 54 = .ok (.iastore, 1) := by decide +kernel
theorem dX6_note_55 : decode cX6_note 55 = .ok (.return_, 1) := by decide +kernel
theorem dX6_begin_0 : decode cX6_begin 0 = .ok (.aload_n 0, 1) := by decide +kernel
theorem dX6_begin_1 : decode cX6_begin 1 = .ok (.getfield 55, 3) := by decide +kernel
theorem dX6_begin_4 : decode cX6_begin 4 = .ok (.aload_n 0, 1) := by decide +kernel
theorem dX6_begin_5 : decode cX6_begin 5 = .ok (.getfield 145, 3) := by decide +kernel
theorem dX6_begin_8 : decode cX6_begin 8 = .ok (.iload_n 1, 1) := by decide +kernel
theorem dX6_begin_9 : decode cX6_begin 9 = .ok (.iastore, 1) := by decide +kernel
theorem dX6_begin_10 : decode cX6_begin 10 = .ok (.aload_n 0, 1) := by decide +kernel
theorem dX6_begin_11 : decode cX6_begin 11 = .ok (.getfield 58, 3) := by decide +kernel
theorem dX6_begin_14 : decode cX6_begin 14 = .ok (.aload_n 0, 1) := by decide +kernel
theorem dX6_begin_15 : decode cX6_begin 15 = .ok (.getfield 145, 3) := by decide +kernel
theorem dX6_begin_18 : decode cX6_begin 18 = .ok (.iconst 0, 1) := by decide +kernel
theorem dX6_begin_19 : decode cX6_begin 19 = .ok (.iastore, 1) := by decide +kernel
theorem dX6_begin_20 : decode cX6_begin 20 = .ok (.iconst 0, 1) := by decide +kernel
theorem dX6_begin_21 : decode cX6_begin 21 = .ok (.istore 4, 2) := by decide +kernel
theorem dX6_begin_23 : decode cX6_begin 23 = .ok (.iload 4, 2) := by decide +kernel
theorem dX6_begin_25 : decode cX6_begin 25 = .ok (.iconst 4, 1) := by decide +kernel
theorem dX6_begin_26 : decode cX6_begin 26 = .ok (.if_icmp .ge 21, 3) := by decide +kernel
theorem dX6_begin_29 : decode cX6_begin 29 = .ok (.aload_n 0, 1) := by decide +kernel
theorem dX6_begin_30 : decode cX6_begin 30 = .ok (.aload_n 0, 1) := by decide +kernel
theorem dX6_begin_31 : decode cX6_begin 31 = .ok (.getfield 145, 3) := by decide +kernel
theorem dX6_begin_34 : decode cX6_begin 34 = .ok (.iload 4, 2) := by decide +kernel
theorem dX6_begin_36 : decode cX6_begin 36 = .ok (.iconst (-1), 1) := by decide +kernel
theorem dX6_begin_37 : decode cX6_begin 37 = .ok (.iconst 0, 1) := by decide +kernel
theorem dX6_begin_38 : decode cX6_begin 38 = .ok (.invokevirtual 148, 3) := by decide +kernel
theorem dX6_begin_41 : decode cX6_begin 41 = .ok (.iinc 4 1, 3) := by decide +kernel
theorem dX6_begin_44 : decode cX6_begin 44 = .ok (.goto (-21), 3) := by decide +kernel
theorem dX6_begin_47 : decode cX6_begin 47 = .ok (.aload_n 0, 1) := by decide +kernel
theorem dX6_begin_48 : decode cX6_begin 48 = .ok (.aload_n 0, 1) := by decide +kernel
theorem dX6_begin_49 : decode cX6_begin 49 = .ok (.getfield 145, 3) := by decide +kernel
theorem dX6_begin_52 : decode cX6_begin 52 = .ok (.iconst 0, 1) := by decide +kernel
theorem dX6_begin_53 : decode cX6_begin 53 = .ok (.iload_n 2, 1) := by decide +kernel
theorem dX6_begin_54 : decode cX6_begin 54 = .ok (.iload_n 3, 1) := by decide +kernel
theorem dX6_begin_55 : decode cX6_begin 55 = .ok (.invokevirtual 148, 3) := by decide +kernel
theorem dX6_begin_58 : decode cX6_begin 58 = .ok (.aload_n 0, 1) := by decide +kernel
theorem dX6_begin_59 : decode cX6_begin 59 = .ok (.dup, 1) := by decide +kernel
theorem dX6_begin_60 : decode cX6_begin 60 = .ok (.getfield 145, 3) := by decide +kernel
theorem dX6_begin_63 : decode cX6_begin 63 = .ok (.iconst 1, 1) := by decide +kernel
theorem dX6_begin_64 : decode cX6_begin 64 = .ok (.iadd, 1) := by decide +kernel
theorem dX6_begin_65 : decode cX6_begin 65 = .ok (.putfield 145, 3) := by decide +kernel
theorem dX6_begin_68 : decode cX6_begin 68 = .ok (.aload_n 0, 1) := by decide +kernel
theorem dX6_begin_69 : decode cX6_begin 69 = .ok (.aload_n 0, 1) := by decide +kernel
theorem dX6_begin_70 : decode cX6_begin 70 = .ok (.getfield 152, 3) := by decide +kernel
theorem dX6_begin_73 : decode cX6_begin 73 = .ok (.aload_n 0, 1) := by decide +kernel
theorem dX6_begin_74 : decode cX6_begin 74 = .ok (.getfield 145, 3) := by decide +kernel
theorem dX6_begin_77 : decode cX6_begin 77 = .ok (.invokestatic 155, 3) := by decide +kernel
theorem dX6_begin_80 : decode cX6_begin 80 = .ok (.putfield 152, 3) := by decide +kernel
theorem dX6_begin_83 : decode cX6_begin 83 = .ok (.aload_n 0, 1) := by decide +kernel
theorem dX6_begin_84 : decode cX6_begin 84 = .ok (.iload_n 1, 1) := by decide +kernel
theorem dX6_begin_85 : decode cX6_begin 85 = .ok (.invokevirtual 160, 3) := by decide +kernel
theorem dX6_begin_88 : decode cX6_begin 88 = .ok (.aload_n 0, 1) := by decide +kernel
theorem dX6_begin_89 : decode cX6_begin 89 = .ok (.getfield 61, 3) := by decide +kernel
theorem dX6_begin_92 : decode cX6_begin 92 = .ok (.aload_n 0, 1) := by decide +kernel
theorem dX6_begin_93 : decode cX6_begin 93 = .ok (.getfield 145, 3) := by decide +kernel
theorem dX6_begin_96 : decode cX6_begin 96 = .ok (.iconst 1, 1) := by decide +kernel
theorem dX6_begin_97 : decode cX6_begin 97 = .ok (.isub, 1) := by decide +kernel
theorem dX6_begin_98 : decode cX6_begin 98 = .ok (.aload_n 0, 1) := by decide +kernel
theorem dX6_begin_99 : decode cX6_begin 99 = .ok (.getfield 32, 3) := by decide +kernel
theorem dX6_begin_102 : decode cX6_begin 102 = .ok (.iload_n 1, 1) := by decide +kernel
theorem dX6_begin_103 : decode cX6_begin 103 = .ok (.iaload, 1) := by decide +kernel
theorem dX6_begin_104 : decode cX6_begin 104 = .ok (.iastore, 1) := by decide +kernel
theorem dX6_begin_105 : decode cX6_begin 105 = .ok (.return_, 1) := by decide +kernel
theorem dX6_put_0 : decode cX6_put 0 = .ok (.aload_n 0, 1) := by decide +kernel
theorem dX6_put_1 : decode cX6_put 1 = .ok (.getfield 64, 3) := by decide +kernel
theorem dX6_put_4 : decode cX6_put 4 = .ok (.iconst 4, 1) := by decide +kernel
theorem dX6_put_5 : decode cX6_put 5 = .ok (.iload_n 1, 1) := by decide +kernel
theorem dX6_put_6 : decode cX6_put 6 = .ok (.imul, 1) := by decide +kernel
theorem dX6_put_7 : decode cX6_put 7 = .ok (.iload_n 2, 1) := by decide +kernel
theorem dX6_put_8 : decode cX6_put 8 = .ok (.iadd, 1) := by decide +kernel
theorem dX6_put_9 : decode cX6_put 9 = .ok (.iload_n 3, 1) := by decide +kernel
theorem dX6_put_10 : decode cX6_put 10 = .ok (.iastore, 1) := by decide +kernel
theorem dX6_put_11 : decode cX6_put 11 = .ok (.aload_n 0, 1) := by decide +kernel
theorem dX6_put_12 : decode cX6_put 12 = .ok (.getfield 67, 3) := by decide +kernel
theorem dX6_put_15 : decode cX6_put 15 = .ok (.iconst 4, 1) := by decide +kernel
theorem dX6_put_16 : decode cX6_put 16 = .ok (.iload_n 1, 1) := by decide +kernel
theorem dX6_put_17 : decode cX6_put 17 = .ok (.imul, 1) := by decide +kernel
theorem dX6_put_18 : decode cX6_put 18 = .ok (.iload_n 2, 1) := by decide +kernel
theorem dX6_put_19 : decode cX6_put 19 = .ok (.iadd, 1) := by decide +kernel
theorem dX6_put_20 : decode cX6_put 20 = .ok (.iload 4, 2) := by decide +kernel
theorem dX6_put_22 : decode cX6_put 22 = .ok (.iastore, 1) := by decide +kernel
theorem dX6_put_23 : decode cX6_put 23 = .ok (.return_, 1) := by decide +kernel
theorem dX6_kindOf_0 : decode cX6_kindOf 0 = .ok (.aload_n 0, 1) := by decide +kernel
theorem dX6_kindOf_1 : decode cX6_kindOf 1 = .ok (.getfield 64, 3) := by decide +kernel
theorem dX6_kindOf_4 : decode cX6_kindOf 4 = .ok (.iconst 4, 1) := by decide +kernel
theorem dX6_kindOf_5 : decode cX6_kindOf 5 = .ok (.aload_n 0, 1) := by decide +kernel
theorem dX6_kindOf_6 : decode cX6_kindOf 6 = .ok (.getfield 145, 3) := by decide +kernel
theorem dX6_kindOf_9 : decode cX6_kindOf 9 = .ok (.iconst 1, 1) := by decide +kernel
theorem dX6_kindOf_10 : decode cX6_kindOf 10 = .ok (.isub, 1) := by decide +kernel
theorem dX6_kindOf_11 : decode cX6_kindOf 11 = .ok (.imul, 1) := by decide +kernel
theorem dX6_kindOf_12 : decode cX6_kindOf 12 = .ok (.iload_n 1, 1) := by decide +kernel
theorem dX6_kindOf_13 : decode cX6_kindOf 13 = .ok (.iadd, 1) := by decide +kernel
theorem dX6_kindOf_14 : decode cX6_kindOf 14 = .ok (.iaload, 1) := by decide +kernel
theorem dX6_kindOf_15 : decode cX6_kindOf 15 = .ok (.ireturn, 1) := by decide +kernel
theorem dX6_valueOf_0 : decode cX6_valueOf 0 = .ok (.aload_n 0, 1) := by decide +kernel
theorem dX6_valueOf_1 : decode cX6_valueOf 1 = .ok (.getfield 67, 3) := by decide +kernel
theorem dX6_valueOf_4 : decode cX6_valueOf 4 = .ok (.iconst 4, 1) := by decide +kernel
theorem dX6_valueOf_5 : decode cX6_valueOf 5 = .ok (.aload_n 0, 1) := by decide +kernel
theorem dX6_valueOf_6 : decode cX6_valueOf 6 = .ok (.getfield 145, 3) := by decide +kernel
theorem dX6_valueOf_9 : decode cX6_valueOf 9 = .ok (.iconst 1, 1) := by decide +kernel
theorem dX6_valueOf_10 : decode cX6_valueOf 10 = .ok (.isub, 1) := by decide +kernel
theorem dX6_valueOf_11 : decode cX6_valueOf 11 = .ok (.imul, 1) := by decide +kernel
theorem dX6_valueOf_12 : decode cX6_valueOf 12 = .ok (.iload_n 1, 1) := by decide +kernel
theorem dX6_valueOf_13 : decode cX6_valueOf 13 = .ok (.iadd, 1) := by decide +kernel
theorem dX6_valueOf_14 : decode cX6_valueOf 14 = .ok (.iaload, 1) := by decide +kernel
theorem dX6_valueOf_15 : decode cX6_valueOf 15 = .ok (.ireturn, 1) := by decide +kernel
theorem dX6_areInts_0 : decode cX6_areInts 0 = .ok (.aload_n 0, 1) := by decide +kernel
theorem dX6_areInts_1 : decode cX6_areInts 1 = .ok (.iload_n 1, 1) := by decide +kernel
theorem dX6_areInts_2 : decode cX6_areInts 2 = .ok (.invokevirtual 163, 3) := by decide +kernel
theorem dX6_areInts_5 : decode cX6_areInts 5 = .ok (.iconst (-1), 1) := by decide +kernel
theorem dX6_areInts_6 : decode cX6_areInts 6 = .ok (.if_icmp .ne 16, 3) := by decide +kernel
theorem dX6_areInts_9 : decode cX6_areInts 9 = .ok (.aload_n 0, 1) := by decide +kernel
theorem dX6_areInts_10 : decode cX6_areInts 10 = .ok (.iload_n 2, 1) := by decide +kernel
theorem dX6_areInts_11 : decode cX6_areInts 11 = .ok (.invokevirtual 163, 3) := by decide +kernel
theorem dX6_areInts_14 : decode cX6_areInts 14 = .ok (.iconst (-1), 1) := by decide +kernel
theorem dX6_areInts_15 : decode cX6_areInts 15 = .ok (.if_icmp .ne 7, 3) := by decide +kernel
theorem dX6_areInts_18 : decode cX6_areInts 18 = .ok (.iconst 1, 1) := by decide +kernel
theorem dX6_areInts_19 : decode cX6_areInts 19 = .ok (.goto 4, 3) := by decide +kernel
theorem dX6_areInts_22 : decode cX6_areInts 22 = .ok (.iconst 0, 1) := by decide +kernel
theorem dX6_areInts_23 : decode cX6_areInts 23 = .ok (.ireturn, 1) := by decide +kernel
theorem dX6_finish_0 : decode cX6_finish 0 = .ok (.aload_n 0, 1) := by decide +kernel
theorem dX6_finish_1 : decode cX6_finish 1 = .ok (.dup, 1) := by decide +kernel
theorem dX6_finish_2 : decode cX6_finish 2 = .ok (.getfield 145, 3) := by decide +kernel
theorem dX6_finish_5 : decode cX6_finish 5 = .ok (.iconst 1, 1) := by decide +kernel
theorem dX6_finish_6 : decode cX6_finish 6 = .ok (.isub, 1) := by decide +kernel
theorem dX6_finish_7 : decode cX6_finish 7 = .ok (.putfield 145, 3) := by decide +kernel
theorem dX6_finish_10 : decode cX6_finish 10 = .ok (.aload_n 0, 1) := by decide +kernel
theorem dX6_finish_11 : decode cX6_finish 11 = .ok (.getfield 145, 3) := by decide +kernel
theorem dX6_finish_14 : decode cX6_finish 14 = .ok (.ifCond .ne 14, 3) := by decide +kernel
theorem dX6_finish_17 : decode cX6_finish 17 = .ok (.aload_n 0, 1) := by decide +kernel
theorem dX6_finish_18 : decode cX6_finish 18 = .ok (.iload_n 1, 1) := by decide +kernel
theorem dX6_finish_19 : decode cX6_finish 19 = .ok (.putfield 70, 3) := by decide +kernel
theorem dX6_finish_22 : decode cX6_finish 22 = .ok (.aload_n 0, 1) := by decide +kernel
theorem dX6_finish_23 : decode cX6_finish 23 = .ok (.iload_n 2, 1) := by decide +kernel
theorem dX6_finish_24 : decode cX6_finish 24 = .ok (.putfield 166, 3) := by decide +kernel
theorem dX6_finish_27 : decode cX6_finish 27 = .ok (.return_, 1) := by decide +kernel
theorem dX6_finish_28 : decode cX6_finish 28 = .ok (.aload_n 0, 1) := by decide +kernel
theorem dX6_finish_29 : decode cX6_finish 29 = .ok (.getfield 58, 3) := by decide +kernel
theorem dX6_finish_32 : decode cX6_finish 32 = .ok (.aload_n 0, 1) := by decide +kernel
theorem dX6_finish_33 : decode cX6_finish 33 = .ok (.getfield 145, 3) := by decide +kernel
theorem dX6_finish_36 : decode cX6_finish 36 = .ok (.iconst 1, 1) := by decide +kernel
theorem dX6_finish_37 : decode cX6_finish 37 = .ok (.isub, 1) := by decide +kernel
theorem dX6_finish_38 : decode cX6_finish 38 = .ok (.iaload, 1) := by decide +kernel
theorem dX6_finish_39 : decode cX6_finish 39 = .ok (.istore_n 3, 1) := by decide +kernel
theorem dX6_finish_40 : decode cX6_finish 40 = .ok (.aload_n 0, 1) := by decide +kernel
theorem dX6_finish_41 : decode cX6_finish 41 = .ok (.aload_n 0, 1) := by decide +kernel
theorem dX6_finish_42 : decode cX6_finish 42 = .ok (.getfield 145, 3) := by decide +kernel
theorem dX6_finish_45 : decode cX6_finish 45 = .ok (.iconst 1, 1) := by decide +kernel
theorem dX6_finish_46 : decode cX6_finish 46 = .ok (.isub, 1) := by decide +kernel
theorem dX6_finish_47 : decode cX6_finish 47 = .ok (.aload_n 0, 1) := by decide +kernel
theorem dX6_finish_48 : decode cX6_finish 48 = .ok (.aload_n 0, 1) := by decide +kernel
theorem dX6_finish_49 : decode cX6_finish 49 = .ok (.getfield 55, 3) := by decide +kernel
theorem dX6_finish_52 : decode cX6_finish 52 = .ok (.aload_n 0, 1) := by decide +kernel
theorem dX6_finish_53 : decode cX6_finish 53 = .ok (.getfield 145, 3) := by decide +kernel
theorem dX6_finish_56 : decode cX6_finish 56 = .ok (.iconst 1, 1) := by decide +kernel
theorem dX6_finish_57 : decode cX6_finish 57 = .ok (.isub, 1) := by decide +kernel
theorem dX6_finish_58 : decode cX6_finish 58 = .ok (.iaload, 1) := by decide +kernel
theorem dX6_finish_59 : decode cX6_finish 59 = .ok (.iload_n 3, 1) := by decide +kernel
theorem dX6_finish_60 : decode cX6_finish 60 = .ok (.iconst 1, 1) := by decide +kernel
theorem dX6_finish_61 : decode cX6_finish 61 = .ok (.invokevirtual 127, 3) := by decide +kernel
theorem dX6_finish_64 : decode cX6_finish 64 = .ok (.iload_n 1, 1) := by decide +kernel
theorem dX6_finish_65 : decode cX6_finish 65 = .ok (.iload_n 2, 1) := by decide +kernel
theorem dX6_finish_66 : decode cX6_finish 66 = .ok (.invokevirtual 148, 3) := by decide +kernel
theorem dX6_finish_69 : decode cX6_finish 69 = .ok (.aload_n 0, 1) := by decide +kernel
theorem dX6_finish_70 : decode cX6_finish 70 = .ok (.getfield 58, 3) := by decide +kernel
theorem dX6_finish_73 : decode cX6_finish 73 = .ok (.aload_n 0, 1) := by decide +kernel
theorem dX6_finish_74 : decode cX6_finish 74 = .ok (.getfield 145, 3) := by decide +kernel
theorem dX6_finish_77 : decode cX6_finish 77 = .ok (.iconst 1, 1) := by decide +kernel
theorem dX6_finish_78 : decode cX6_finish 78 = .ok (.isub, 1) := by decide +kernel
theorem dX6_finish_79 : decode cX6_finish 79 = .ok (.iload_n 3, 1) := by decide +kernel
theorem dX6_finish_80 : decode cX6_finish 80 = .ok (.iconst 1, 1) := by decide +kernel
theorem dX6_finish_81 : decode cX6_finish 81 = .ok (.iadd, 1) := by decide +kernel
theorem dX6_finish_82 : decode cX6_finish 82 = .ok (.iastore, 1) := by decide +kernel
theorem dX6_finish_83 : decode cX6_finish 83 = .ok (.return_, 1) := by decide +kernel
theorem dX6_goTo_0 : decode cX6_goTo 0 = .ok (.aload_n 0, 1) := by decide +kernel
theorem dX6_goTo_1 : decode cX6_goTo 1 = .ok (.getfield 145, 3) := by decide +kernel
theorem dX6_goTo_4 : decode cX6_goTo 4 = .ok (.iconst 1, 1) := by decide +kernel
theorem dX6_goTo_5 : decode cX6_goTo 5 = .ok (.isub, 1) := by decide +kernel
theorem dX6_goTo_6 : decode cX6_goTo 6 = .ok (.istore_n 2, 1) := by decide +kernel
theorem dX6_goTo_7 : decode cX6_goTo 7 = .ok (.iload_n 1, 1) := by decide +kernel
theorem dX6_goTo_8 : decode cX6_goTo 8 = .ok (.aload_n 0, 1) := by decide +kernel
theorem dX6_goTo_9 : decode cX6_goTo 9 = .ok (.getfield 58, 3) := by decide +kernel
theorem dX6_goTo_12 : decode cX6_goTo 12 = .ok (.iload_n 2, 1) := by decide +kernel
theorem dX6_goTo_13 : decode cX6_goTo 13 = .ok (.iaload, 1) := by decide +kernel
theorem dX6_goTo_14 : decode cX6_goTo 14 = .ok (.if_icmp .gt 7, 3) := by decide +kernel
theorem dX6_goTo_17 : decode cX6_goTo 17 = .ok (.iconst 1, 1) := by decide +kernel
theorem dX6_goTo_18 : decode cX6_goTo 18 = .ok (.goto 4, 3) := by decide +kernel
theorem dX6_goTo_21 : decode cX6_goTo 21 = .ok (.iconst 0, 1) := by decide +kernel
theorem dX6_goTo_22 : decode cX6_goTo 22 = .ok (.istore_n 3, 1) := by decide +kernel
theorem dX6_goTo_23 : decode cX6_goTo 23 = .ok (.aload_n 0, 1) := by decide +kernel
theorem dX6_goTo_24 : decode cX6_goTo 24 = .ok (.getfield 58, 3) := by decide +kernel
theorem dX6_goTo_27 : decode cX6_goTo 27 = .ok (.iload_n 2, 1) := by decide +kernel
theorem dX6_goTo_28 : decode cX6_goTo 28 = .ok (.iload_n 1, 1) := by decide +kernel
theorem dX6_goTo_29 : decode cX6_goTo 29 = .ok (.iastore, 1) := by decide +kernel
theorem dX6_goTo_30 : decode cX6_goTo 30 = .ok (.iload_n 3, 1) := by decide +kernel
theorem dX6_goTo_31 : decode cX6_goTo 31 = .ok (.ifCond .ne 4, 3) := by decide +kernel
theorem dX6_goTo_34 : decode cX6_goTo 34 = .ok (.return_, 1) := by decide +kernel
theorem dX6_goTo_35 : decode cX6_goTo 35 = .ok (.aload_n 0, 1) := by decide +kernel
theorem dX6_goTo_36 : decode cX6_goTo 36 = .ok (.getfield 55, 3) := by decide +kernel
theorem dX6_goTo_39 : decode cX6_goTo 39 = .ok (.iload_n 2, 1) := by decide +kernel
theorem dX6_goTo_40 : decode cX6_goTo 40 = .ok (.iaload, 1) := by decide +kernel
theorem dX6_goTo_41 : decode cX6_goTo 41 = .ok (.istore 4, 2) := by decide +kernel
theorem dX6_goTo_43 : decode cX6_goTo 43 = .ok (.aload_n 0, 1) := by decide +kernel
theorem dX6_goTo_44 : decode cX6_goTo 44 = .ok (.iload 4, 2) := by decide +kernel
theorem dX6_goTo_46 : decode cX6_goTo 46 = .ok (.invokevirtual 160, 3) := by decide +kernel
theorem dX6_goTo_49 : decode cX6_goTo 49 = .ok (.aload_n 0, 1) := by decide +kernel
theorem dX6_goTo_50 : decode cX6_goTo 50 = .ok (.getfield 32, 3) := by decide +kernel
theorem dX6_goTo_53 : decode cX6_goTo 53 = .ok (.iload 4, 2) := by decide +kernel
theorem dX6_goTo_55 : decode cX6_goTo 55 = .ok (.iaload, 1) := by decide +kernel
theorem dX6_goTo_56 : decode cX6_goTo 56 = .ok (.aload_n 0, 1) := by decide +kernel
theorem dX6_goTo_57 : decode cX6_goTo 57 = .ok (.getfield 61, 3) := by decide +kernel
theorem dX6_goTo_60 : decode cX6_goTo 60 = .ok (.iload_n 2, 1) := by decide +kernel
theorem dX6_goTo_61 : decode cX6_goTo 61 = .ok (.iaload, 1) := by decide +kernel
theorem dX6_goTo_62 : decode cX6_goTo 62 = .ok (.if_icmp .gt 4, 3) := by decide +kernel
theorem dX6_goTo_65 : decode cX6_goTo 65 = .ok (.return_, 1) := by decide +kernel
theorem dX6_goTo_66 : decode cX6_goTo 66 = .ok (.aload_n 0, 1) := by decide +kernel
theorem dX6_goTo_67 : decode cX6_goTo 67 = .ok (.getfield 61, 3) := by decide +kernel
theorem dX6_goTo_70 : decode cX6_goTo 70 = .ok (.iload_n 2, 1) := by decide +kernel
theorem dX6_goTo_71 : decode cX6_goTo 71 = .ok (.aload_n 0, 1) := by decide +kernel
theorem dX6_goTo_72 : decode cX6_goTo 72 = .ok (.getfield 32, 3) := by decide +kernel
theorem dX6_goTo_75 : decode cX6_goTo 75 = .ok (.iload 4, 2) := by decide +kernel
theorem dX6_goTo_77 : decode cX6_goTo 77 = .ok (.iaload, 1) := by decide +kernel
theorem dX6_goTo_78 : decode cX6_goTo 78 = .ok (.iastore, 1) := by decide +kernel
theorem dX6_goTo_79 : decode cX6_goTo 79 = .ok (.aload_n 0, 1) := by decide +kernel
theorem dX6_goTo_80 : decode cX6_goTo 80 = .ok (.getfield 51, 3) := by decide +kernel
theorem dX6_goTo_83 : decode cX6_goTo 83 = .ok (.iconst 3, 1) := by decide +kernel
theorem dX6_goTo_84 : decode cX6_goTo 84 = .ok (.dup2, 1) := by decide +kernel
theorem dX6_goTo_85 : decode cX6_goTo 85 = .ok (.laload, 1) := by decide +kernel
theorem dX6_goTo_86 : decode cX6_goTo 86 = .ok (.lconst 1, 1) := by decide +kernel
theorem dX6_goTo_87 : decode cX6_goTo 87 = .ok (.ladd, 1) := by decide +kernel
theorem dX6_goTo_88 : decode cX6_goTo 88 = .ok (.lastore, 1) := by decide +kernel
theorem dX6_goTo_89 : decode cX6_goTo 89 = .ok (.return_, 1) := by decide +kernel
theorem dX6_length_0 : decode cX6_length 0 = .ok (.aload_n 0, 1) := by decide +kernel
theorem dX6_length_1 : decode cX6_length 1 = .ok (.iload_n 1, 1) := by decide +kernel
theorem dX6_length_2 : decode cX6_length 2 = .ok (.iload_n 2, 1) := by decide +kernel
theorem dX6_length_3 : decode cX6_length 3 = .ok (.invokevirtual 113, 3) := by decide +kernel
theorem dX6_length_6 : decode cX6_length 6 = .ok (.istore_n 3, 1) := by decide +kernel
theorem dX6_length_7 : decode cX6_length 7 = .ok (.iconst 1, 1) := by decide +kernel
theorem dX6_length_8 : decode cX6_length 8 = .ok (.istore 4, 2) := by decide +kernel
theorem dX6_length_10 : decode cX6_length 10 = .ok (.iload_n 1, 1) := by decide +kernel
theorem dX6_length_11 : decode cX6_length 11 = .ok (.istore 5, 2) := by decide +kernel
theorem dX6_length_13 : decode cX6_length 13 = .ok (.iload 5, 2) := by decide +kernel
theorem dX6_length_15 : decode cX6_length 15 = .ok (.iload_n 3, 1) := by decide +kernel
theorem dX6_length_16 : decode cX6_length 16 = .ok (.if_icmp .eq 18, 3) := by decide +kernel
theorem dX6_length_19 : decode cX6_length 19 = .ok (.iinc 4 1, 3) := by decide +kernel
theorem dX6_length_22 : decode cX6_length 22 = .ok (.aload_n 0, 1) := by decide +kernel
theorem dX6_length_23 : decode cX6_length 23 = .ok (.getfield 9, 3) := by decide +kernel
theorem dX6_length_26 : decode cX6_length 26 = .ok (.iload 5, 2) := by decide +kernel
theorem dX6_length_28 : decode cX6_length 28 = .ok (.iaload, 1) := by decide +kernel
theorem dX6_length_29 : decode cX6_length 29 = .ok (.istore 5, 2) := by decide +kernel
theorem dX6_length_31 : decode cX6_length 31 = .ok (.goto (-18), 3) := by decide +kernel
theorem dX6_length_34 : decode cX6_length 34 = .ok (.iload 4, 2) := by decide +kernel
theorem dX6_length_36 : decode cX6_length 36 = .ok (.ireturn, 1) := by decide +kernel
theorem dX6_meet_0 : decode cX6_meet 0 = .ok (.bipush 20, 2) := by decide +kernel
theorem dX6_meet_2 : decode cX6_meet 2 = .ok (.iload_n 1, 1) := by decide +kernel
theorem dX6_meet_3 : decode cX6_meet 3 = .ok (.imul, 1) := by decide +kernel
theorem dX6_meet_4 : decode cX6_meet 4 = .ok (.iload_n 2, 1) := by decide +kernel
theorem dX6_meet_5 : decode cX6_meet 5 = .ok (.iadd, 1) := by decide +kernel
theorem dX6_meet_6 : decode cX6_meet 6 = .ok (.istore 5, 2) := by decide +kernel
theorem dX6_meet_8 : decode cX6_meet 8 = .ok (.aload_n 0, 1) := by decide +kernel
theorem dX6_meet_9 : decode cX6_meet 9 = .ok (.getfield 61, 3) := by decide +kernel
theorem dX6_meet_12 : decode cX6_meet 12 = .ok (.aload_n 0, 1) := by decide +kernel
theorem dX6_meet_13 : decode cX6_meet 13 = .ok (.getfield 145, 3) := by decide +kernel
theorem dX6_meet_16 : decode cX6_meet 16 = .ok (.iconst 1, 1) := by decide +kernel
theorem dX6_meet_17 : decode cX6_meet 17 = .ok (.isub, 1) := by decide +kernel
theorem dX6_meet_18 : decode cX6_meet 18 = .ok (.iaload, 1) := by decide +kernel
theorem dX6_meet_19 : decode cX6_meet 19 = .ok (.iconst 2, 1) := by decide +kernel
theorem dX6_meet_20 : decode cX6_meet 20 = .ok (.if_icmp .ge 30, 3) := by decide +kernel
theorem dX6_meet_23 : decode cX6_meet 23 = .ok (.aload_n 0, 1) := by decide +kernel
theorem dX6_meet_24 : decode cX6_meet 24 = .ok (.iload 5, 2) := by decide +kernel
theorem dX6_meet_26 : decode cX6_meet 26 = .ok (.iload_n 3, 1) := by decide +kernel
theorem dX6_meet_27 : decode cX6_meet 27 = .ok (.invokevirtual 169, 3) := by decide +kernel
theorem dX6_meet_30 : decode cX6_meet 30 = .ok (.aload_n 0, 1) := by decide +kernel
theorem dX6_meet_31 : decode cX6_meet 31 = .ok (.dup, 1) := by decide +kernel
theorem dX6_meet_32 : decode cX6_meet 32 = .ok (.getfield 131, 3) := by decide +kernel
theorem dX6_meet_35 : decode cX6_meet 35 = .ok (.aload_n 0, 1) := by decide +kernel
theorem dX6_meet_36 : decode cX6_meet 36 = .ok (.iload_n 3, 1) := by decide +kernel
theorem dX6_meet_37 : decode cX6_meet 37 = .ok (.iload 4, 2) := by decide +kernel
theorem dX6_meet_39 : decode cX6_meet 39 = .ok (.invokevirtual 173, 3) := by decide +kernel
theorem dX6_meet_42 : decode cX6_meet 42 = .ok (.i2l, 1) := by decide +kernel
theorem dX6_meet_43 : decode cX6_meet 43 = .ok (.ladd, 1) := by decide +kernel
theorem dX6_meet_44 : decode cX6_meet 44 = .ok (.putfield 131, 3) := by decide +kernel
theorem dX6_meet_47 : decode cX6_meet 47 = .ok (.goto 171, 3) := by decide +kernel
theorem dX6_meet_50 : decode cX6_meet 50 = .ok (.aload_n 0, 1) := by decide +kernel
theorem dX6_meet_51 : decode cX6_meet 51 = .ok (.getfield 47, 3) := by decide +kernel
theorem dX6_meet_54 : decode cX6_meet 54 = .ok (.sipush 240, 3) := by decide +kernel
theorem dX6_meet_57 : decode cX6_meet 57 = .ok (.iload 5, 2) := by decide +kernel
theorem dX6_meet_59 : decode cX6_meet 59 = .ok (.iadd, 1) := by decide +kernel
theorem dX6_meet_60 : decode cX6_meet 60 = .ok (.baload, 1) := by decide +kernel
theorem dX6_meet_61 : decode cX6_meet 61 = .ok (.ifCond .eq 23, 3) := by decide +kernel
theorem dX6_meet_64 : decode cX6_meet 64 = .ok (.aload_n 0, 1) := by decide +kernel
theorem dX6_meet_65 : decode cX6_meet 65 = .ok (.dup, 1) := by decide +kernel
theorem dX6_meet_66 : decode cX6_meet 66 = .ok (.getfield 131, 3) := by decide +kernel
theorem dX6_meet_69 : decode cX6_meet 69 = .ok (.aload_n 0, 1) := by decide +kernel
theorem dX6_meet_70 : decode cX6_meet 70 = .ok (.iload_n 3, 1) := by decide +kernel
theorem dX6_meet_71 : decode cX6_meet 71 = .ok (.iload 4, 2) := by decide +kernel
theorem dX6_meet_73 : decode cX6_meet 73 = .ok (.invokevirtual 173, 3) := by decide +kernel
theorem dX6_meet_76 : decode cX6_meet 76 = .ok (.i2l, 1) := by decide +kernel
theorem dX6_meet_77 : decode cX6_meet 77 = .ok (.ladd, 1) := by decide +kernel
theorem dX6_meet_78 : decode cX6_meet 78 = .ok (.putfield 131, 3) := by decide +kernel
theorem dX6_meet_81 : decode cX6_meet 81 = .ok (.goto 137, 3) := by decide +kernel
theorem dX6_meet_84 : decode cX6_meet 84 = .ok (.aload_n 0, 1) := by decide +kernel
theorem dX6_meet_85 : decode cX6_meet 85 = .ok (.sipush 240, 3) := by decide +kernel
theorem dX6_meet_88 : decode cX6_meet 88 = .ok (.iload 5, 2) := by decide +kernel
theorem dX6_meet_90 : decode cX6_meet 90 = .ok (.iadd, 1) := by decide +kernel
theorem dX6_meet_91 : decode cX6_meet 91 = .ok (.iload_n 3, 1) := by decide +kernel
theorem dX6_meet_92 : decode cX6_meet 92 = .ok (.invokevirtual 142, 3) := by decide +kernel
theorem dX6_meet_95 : decode cX6_meet 95 = .ok (.iconst (-1), 1) := by decide +kernel
theorem dX6_meet_96 : decode cX6_meet 96 = .ok (.if_icmp .eq 27, 3) := by decide +kernel
theorem dX6_meet_99 : decode cX6_meet 99 = .ok (.aload_n 0, 1) := by decide +kernel
theorem dX6_meet_100 : decode cX6_meet 100 = .ok (.dup, 1) := by decide +kernel
theorem dX6_meet_101 : decode cX6_meet 101 = .ok (.getfield 131, 3) := by decide +kernel
theorem dX6_meet_104 : decode cX6_meet 104 = .ok (.aload_n 0, 1) := by decide +kernel
theorem dX6_meet_105 : decode cX6_meet 105 = .ok (.sipush 240, 3) := by decide +kernel
theorem dX6_meet_108 : decode cX6_meet 108 = .ok (.iload 5, 2) := by decide +kernel
theorem dX6_meet_110 : decode cX6_meet 110 = .ok (.iadd, 1) := by decide +kernel
theorem dX6_meet_111 : decode cX6_meet 111 = .ok (.iload_n 3, 1) := by decide +kernel
theorem dX6_meet_112 : decode cX6_meet 112 = .ok (.invokevirtual 142, 3) := by decide +kernel
theorem dX6_meet_115 : decode cX6_meet 115 = .ok (.i2l, 1) := by decide +kernel
theorem dX6_meet_116 : decode cX6_meet 116 = .ok (.ladd, 1) := by decide +kernel
theorem dX6_meet_117 : decode cX6_meet 117 = .ok (.putfield 131, 3) := by decide +kernel
theorem dX6_meet_120 : decode cX6_meet 120 = .ok (.goto 98, 3) := by decide +kernel
theorem dX6_meet_123 : decode cX6_meet 123 = .ok (.aload_n 0, 1) := by decide +kernel
theorem dX6_meet_124 : decode cX6_meet 124 = .ok (.iload 5, 2) := by decide +kernel
theorem dX6_meet_126 : decode cX6_meet 126 = .ok (.iload_n 3, 1) := by decide +kernel
theorem dX6_meet_127 : decode cX6_meet 127 = .ok (.invokevirtual 169, 3) := by decide +kernel
theorem dX6_meet_130 : decode cX6_meet 130 = .ok (.aload_n 0, 1) := by decide +kernel
theorem dX6_meet_131 : decode cX6_meet 131 = .ok (.getfield 38, 3) := by decide +kernel
theorem dX6_meet_134 : decode cX6_meet 134 = .ok (.iload_n 1, 1) := by decide +kernel
theorem dX6_meet_135 : decode cX6_meet 135 = .ok (.dup2, 1) := by decide +kernel
theorem dX6_meet_136 : decode cX6_meet 136 = .ok (.iaload, 1) := by decide +kernel
theorem dX6_meet_137 : decode cX6_meet 137 = .ok (.iconst 1, 1) := by decide +kernel
theorem dX6_meet_138 : decode cX6_meet 138 = .ok (.iadd, 1) := by decide +kernel
theorem dX6_meet_139 : decode cX6_meet 139 = .ok (.iastore, 1) := by decide +kernel
theorem dX6_meet_140 : decode cX6_meet 140 = .ok (.aload_n 0, 1) := by decide +kernel
theorem dX6_meet_141 : decode cX6_meet 141 = .ok (.getfield 32, 3) := by decide +kernel
theorem dX6_meet_144 : decode cX6_meet 144 = .ok (.iload_n 1, 1) := by decide +kernel
theorem dX6_meet_145 : decode cX6_meet 145 = .ok (.iconst 0, 1) := by decide +kernel
theorem dX6_meet_146 : decode cX6_meet 146 = .ok (.iastore, 1) := by decide +kernel
theorem dX6_meet_147 : decode cX6_meet 147 = .ok (.aload_n 0, 1) := by decide +kernel
theorem dX6_meet_148 : decode cX6_meet 148 = .ok (.getfield 35, 3) := by decide +kernel
theorem dX6_meet_151 : decode cX6_meet 151 = .ok (.iload_n 1, 1) := by decide +kernel
theorem dX6_meet_152 : decode cX6_meet 152 = .ok (.iconst 0, 1) := by decide +kernel
theorem dX6_meet_153 : decode cX6_meet 153 = .ok (.iastore, 1) := by decide +kernel
theorem dX6_meet_154 : decode cX6_meet 154 = .ok (.iconst 0, 1) := by decide +kernel
theorem dX6_meet_155 : decode cX6_meet 155 = .ok (.istore 6, 2) := by decide +kernel
theorem dX6_meet_157 : decode cX6_meet 157 = .ok (.iload 6, 2) := by decide +kernel
theorem dX6_meet_159 : decode cX6_meet 159 = .ok (.aload_n 0, 1) := by decide +kernel
theorem dX6_meet_160 : decode cX6_meet 160 = .ok (.getfield 145, 3) := by decide +kernel
theorem dX6_meet_163 : decode cX6_meet 163 = .ok (.if_icmp .ge 28, 3) := by decide +kernel
theorem dX6_meet_166 : decode cX6_meet 166 = .ok (.aload_n 0, 1) := by decide +kernel
theorem dX6_meet_167 : decode cX6_meet 167 = .ok (.getfield 55, 3) := by decide +kernel
theorem dX6_meet_170 : decode cX6_meet 170 = .ok (.iload 6, 2) := by decide +kernel
theorem dX6_meet_172 : decode cX6_meet 172 = .ok (.iaload, 1) := by decide +kernel
theorem dX6_meet_173 : decode cX6_meet 173 = .ok (.iload_n 1, 1) := by decide +kernel
theorem dX6_meet_174 : decode cX6_meet 174 = .ok (.if_icmp .ne 11, 3) := by decide +kernel
theorem dX6_meet_177 : decode cX6_meet 177 = .ok (.aload_n 0, 1) := by decide +kernel
theorem dX6_meet_178 : decode cX6_meet 178 = .ok (.getfield 61, 3) := by decide +kernel
theorem dX6_meet_181 : decode cX6_meet 181 = .ok (.iload 6, 2) := by decide +kernel
theorem dX6_meet_183 : decode cX6_meet 183 = .ok (.iconst 0, 1) := by decide +kernel
theorem dX6_meet_184 : decode cX6_meet 184 = .ok (.iastore, 1) := by decide +kernel
theorem dX6_meet_185 : decode cX6_meet 185 = .ok (.iinc 6 1, 3) := by decide +kernel
theorem dX6_meet_188 : decode cX6_meet 188 = .ok (.goto (-31), 3) := by decide +kernel
theorem dX6_meet_191 : decode cX6_meet 191 = .ok (.aload_n 0, 1) := by decide +kernel
theorem dX6_meet_192 : decode cX6_meet 192 = .ok (.getfield 51, 3) := by decide +kernel
theorem dX6_meet_195 : decode cX6_meet 195 = .ok (.iconst 2, 1) := by decide +kernel
theorem dX6_meet_196 : decode cX6_meet 196 = .ok (.dup2, 1) := by decide +kernel
theorem dX6_meet_197 : decode cX6_meet 197 = .ok (.laload, 1) := by decide +kernel
theorem dX6_meet_198 : decode cX6_meet 198 = .ok (.lconst 1, 1) := by decide +kernel
theorem dX6_meet_199 : decode cX6_meet 199 = .ok (.ladd, 1) := by decide +kernel
theorem dX6_meet_200 : decode cX6_meet 200 = .ok (.lastore, 1) := by decide +kernel
theorem dX6_meet_201 : decode cX6_meet 201 = .ok (.aload_n 0, 1) := by decide +kernel
theorem dX6_meet_202 : decode cX6_meet 202 = .ok (.dup, 1) := by decide +kernel
theorem dX6_meet_203 : decode cX6_meet 203 = .ok (.getfield 131, 3) := by decide +kernel
theorem dX6_meet_206 : decode cX6_meet 206 = .ok (.aload_n 0, 1) := by decide +kernel
theorem dX6_meet_207 : decode cX6_meet 207 = .ok (.iload_n 3, 1) := by decide +kernel
theorem dX6_meet_208 : decode cX6_meet 208 = .ok (.iload 4, 2) := by decide +kernel
theorem dX6_meet_210 : decode cX6_meet 210 = .ok (.invokevirtual 173, 3) := by decide +kernel
theorem dX6_meet_213 : decode cX6_meet 213 = .ok (.i2l, 1) := by decide +kernel
theorem dX6_meet_214 : decode cX6_meet 214 = .ok (.ladd, 1) := by decide +kernel
theorem dX6_meet_215 : decode cX6_meet 215 = .ok (.putfield 131, 3) := by decide +kernel
theorem dX6_meet_218 : decode cX6_meet 218 = .ok (.return_, 1) := by decide +kernel
theorem dX6_send_0 : decode cX6_send 0 = .ok (.aload_n 0, 1) := by decide +kernel
theorem dX6_send_1 : decode cX6_send 1 = .ok (.iload_n 1, 1) := by decide +kernel
theorem dX6_send_2 : decode cX6_send 2 = .ok (.iload_n 2, 1) := by decide +kernel
theorem dX6_send_3 : decode cX6_send 3 = .ok (.iconst 2, 1) := by decide +kernel
theorem dX6_send_4 : decode cX6_send 4 = .ok (.invokevirtual 127, 3) := by decide +kernel
theorem dX6_send_7 : decode cX6_send 7 = .ok (.istore_n 3, 1) := by decide +kernel
theorem dX6_send_8 : decode cX6_send 8 = .ok (.aload_n 0, 1) := by decide +kernel
theorem dX6_send_9 : decode cX6_send 9 = .ok (.iload_n 1, 1) := by decide +kernel
theorem dX6_send_10 : decode cX6_send 10 = .ok (.iload_n 2, 1) := by decide +kernel
theorem dX6_send_11 : decode cX6_send 11 = .ok (.iconst 3, 1) := by decide +kernel
theorem dX6_send_12 : decode cX6_send 12 = .ok (.invokevirtual 127, 3) := by decide +kernel
theorem dX6_send_15 : decode cX6_send 15 = .ok (.istore 4, 2) := by decide +kernel
theorem dX6_send_17 : decode cX6_send 17 = .ok (.aload_n 0, 1) := by decide +kernel
theorem dX6_send_18 : decode cX6_send 18 = .ok (.iload_n 1, 1) := by decide +kernel
theorem dX6_send_19 : decode cX6_send 19 = .ok (.iload_n 2, 1) := by decide +kernel
theorem dX6_send_20 : decode cX6_send 20 = .ok (.iconst 4, 1) := by decide +kernel
theorem dX6_send_21 : decode cX6_send 21 = .ok (.invokevirtual 127, 3) := by decide +kernel
theorem dX6_send_24 : decode cX6_send 24 = .ok (.istore 5, 2) := by decide +kernel
theorem dX6_send_26 : decode cX6_send 26 = .ok (.aload_n 0, 1) := by decide +kernel
theorem dX6_send_27 : decode cX6_send 27 = .ok (.iload 4, 2) := by decide +kernel
theorem dX6_send_29 : decode cX6_send 29 = .ok (.invokevirtual 163, 3) := by decide +kernel
theorem dX6_send_32 : decode cX6_send 32 = .ok (.iconst (-1), 1) := by decide +kernel
theorem dX6_send_33 : decode cX6_send 33 = .ok (.if_icmp .ne 9, 3) := by decide +kernel
theorem dX6_send_36 : decode cX6_send 36 = .ok (.aload_n 0, 1) := by decide +kernel
theorem dX6_send_37 : decode cX6_send 37 = .ok (.iconst 1, 1) := by decide +kernel
theorem dX6_send_38 : decode cX6_send 38 = .ok (.putfield 176, 3) := by decide +kernel
theorem dX6_send_41 : decode cX6_send 41 = .ok (.return_, 1) := by decide +kernel
theorem dX6_send_42 : decode cX6_send 42 = .ok (.aload_n 0, 1) := by decide +kernel
theorem dX6_send_43 : decode cX6_send 43 = .ok (.iload 4, 2) := by decide +kernel
theorem dX6_send_45 : decode cX6_send 45 = .ok (.invokevirtual 163, 3) := by decide +kernel
theorem dX6_send_48 : decode cX6_send 48 = .ok (.istore 6, 2) := by decide +kernel
theorem dX6_send_50 : decode cX6_send 50 = .ok (.aload_n 0, 1) := by decide +kernel
theorem dX6_send_51 : decode cX6_send 51 = .ok (.iload 6, 2) := by decide +kernel
theorem dX6_send_53 : decode cX6_send 53 = .ok (.iload_n 3, 1) := by decide +kernel
theorem dX6_send_54 : decode cX6_send 54 = .ok (.invokevirtual 117, 3) := by decide +kernel
theorem dX6_send_57 : decode cX6_send 57 = .ok (.istore 7, 2) := by decide +kernel
theorem dX6_send_59 : decode cX6_send 59 = .ok (.iload 7, 2) := by decide +kernel
theorem dX6_send_61 : decode cX6_send 61 = .ok (.iconst (-1), 1) := by decide +kernel
theorem dX6_send_62 : decode cX6_send 62 = .ok (.if_icmp .ne 9, 3) := by decide +kernel
theorem dX6_send_65 : decode cX6_send 65 = .ok (.aload_n 0, 1) := by decide +kernel
theorem dX6_send_66 : decode cX6_send 66 = .ok (.iconst 2, 1) := by decide +kernel
theorem dX6_send_67 : decode cX6_send 67 = .ok (.putfield 176, 3) := by decide +kernel
theorem dX6_send_70 : decode cX6_send 70 = .ok (.return_, 1) := by decide +kernel
theorem dX6_send_71 : decode cX6_send 71 = .ok (.aload_n 0, 1) := by decide +kernel
theorem dX6_send_72 : decode cX6_send 72 = .ok (.iload_n 1, 1) := by decide +kernel
theorem dX6_send_73 : decode cX6_send 73 = .ok (.iload_n 2, 1) := by decide +kernel
theorem dX6_send_74 : decode cX6_send 74 = .ok (.iload 6, 2) := by decide +kernel
theorem dX6_send_76 : decode cX6_send 76 = .ok (.iload_n 3, 1) := by decide +kernel
theorem dX6_send_77 : decode cX6_send 77 = .ok (.invokevirtual 179, 3) := by decide +kernel
theorem dX6_send_80 : decode cX6_send 80 = .ok (.aload_n 0, 1) := by decide +kernel
theorem dX6_send_81 : decode cX6_send 81 = .ok (.getfield 145, 3) := by decide +kernel
theorem dX6_send_84 : decode cX6_send 84 = .ok (.bipush 20, 2) := by decide +kernel
theorem dX6_send_86 : decode cX6_send 86 = .ok (.if_icmp .ne 9, 3) := by decide +kernel
theorem dX6_send_89 : decode cX6_send 89 = .ok (.aload_n 0, 1) := by decide +kernel
theorem dX6_send_90 : decode cX6_send 90 = .ok (.iconst 3, 1) := by decide +kernel
theorem dX6_send_91 : decode cX6_send 91 = .ok (.putfield 176, 3) := by decide +kernel
theorem dX6_send_94 : decode cX6_send 94 = .ok (.return_, 1) := by decide +kernel
theorem dX6_send_95 : decode cX6_send 95 = .ok (.aload_n 0, 1) := by decide +kernel
theorem dX6_send_96 : decode cX6_send 96 = .ok (.iload 7, 2) := by decide +kernel
theorem dX6_send_98 : decode cX6_send 98 = .ok (.aload_n 0, 1) := by decide +kernel
theorem dX6_send_99 : decode cX6_send 99 = .ok (.iload 5, 2) := by decide +kernel
theorem dX6_send_101 : decode cX6_send 101 = .ok (.invokevirtual 163, 3) := by decide +kernel
theorem dX6_send_104 : decode cX6_send 104 = .ok (.aload_n 0, 1) := by decide +kernel
theorem dX6_send_105 : decode cX6_send 105 = .ok (.iload 5, 2) := by decide +kernel
theorem dX6_send_107 : decode cX6_send 107 = .ok (.invokevirtual 182, 3) := by decide +kernel
theorem dX6_send_110 : decode cX6_send 110 = .ok (.invokevirtual 185, 3) := by decide +kernel
theorem dX6_send_113 : decode cX6_send 113 = .ok (.aload_n 0, 1) := by decide +kernel
theorem dX6_send_114 : decode cX6_send 114 = .ok (.aload_n 0, 1) := by decide +kernel
theorem dX6_send_115 : decode cX6_send 115 = .ok (.getfield 145, 3) := by decide +kernel
theorem dX6_send_118 : decode cX6_send 118 = .ok (.iconst 1, 1) := by decide +kernel
theorem dX6_send_119 : decode cX6_send 119 = .ok (.isub, 1) := by decide +kernel
theorem dX6_send_120 : decode cX6_send 120 = .ok (.iconst 1, 1) := by decide +kernel
theorem dX6_send_121 : decode cX6_send 121 = .ok (.iload 6, 2) := by decide +kernel
theorem dX6_send_123 : decode cX6_send 123 = .ok (.iconst 0, 1) := by decide +kernel
theorem dX6_send_124 : decode cX6_send 124 = .ok (.invokevirtual 148, 3) := by decide +kernel
theorem dX6_send_127 : decode cX6_send 127 = .ok (.return_, 1) := by decide +kernel
theorem dX6_doStep_0 : decode cX6_doStep 0 = .ok (.aload_n 0, 1) := by decide +kernel
theorem dX6_doStep_1 : decode cX6_doStep 1 = .ok (.getfield 145, 3) := by decide +kernel
theorem dX6_doStep_4 : decode cX6_doStep 4 = .ok (.iconst 1, 1) := by decide +kernel
theorem dX6_doStep_5 : decode cX6_doStep 5 = .ok (.isub, 1) := by decide +kernel
theorem dX6_doStep_6 : decode cX6_doStep 6 = .ok (.istore_n 1, 1) := by decide +kernel
theorem dX6_doStep_7 : decode cX6_doStep 7 = .ok (.aload_n 0, 1) := by decide +kernel
theorem dX6_doStep_8 : decode cX6_doStep 8 = .ok (.getfield 55, 3) := by decide +kernel
theorem dX6_doStep_11 : decode cX6_doStep 11 = .ok (.iload_n 1, 1) := by decide +kernel
theorem dX6_doStep_12 : decode cX6_doStep 12 = .ok (.iaload, 1) := by decide +kernel
theorem dX6_doStep_13 : decode cX6_doStep 13 = .ok (.istore_n 2, 1) := by decide +kernel
theorem dX6_doStep_14 : decode cX6_doStep 14 = .ok (.aload_n 0, 1) := by decide +kernel
theorem dX6_doStep_15 : decode cX6_doStep 15 = .ok (.getfield 58, 3) := by decide +kernel
theorem dX6_doStep_18 : decode cX6_doStep 18 = .ok (.iload_n 1, 1) := by decide +kernel
theorem dX6_doStep_19 : decode cX6_doStep 19 = .ok (.iaload, 1) := by decide +kernel
theorem dX6_doStep_20 : decode cX6_doStep 20 = .ok (.istore_n 3, 1) := by decide +kernel
theorem dX6_doStep_21 : decode cX6_doStep 21 = .ok (.aload_n 0, 1) := by decide +kernel
theorem dX6_doStep_22 : decode cX6_doStep 22 = .ok (.iload_n 2, 1) := by decide +kernel
theorem dX6_doStep_23 : decode cX6_doStep 23 = .ok (.iload_n 3, 1) := by decide +kernel
theorem dX6_doStep_24 : decode cX6_doStep 24 = .ok (.invokevirtual 124, 3) := by decide +kernel
theorem dX6_doStep_27 : decode cX6_doStep 27 = .ok (.istore 4, 2) := by decide +kernel
theorem dX6_doStep_29 : decode cX6_doStep 29 = .ok (.aload_n 0, 1) := by decide +kernel
theorem dX6_doStep_30 : decode cX6_doStep 30 = .ok (.iload_n 2, 1) := by decide +kernel
theorem dX6_doStep_31 : decode cX6_doStep 31 = .ok (.iload_n 3, 1) := by decide +kernel
theorem dX6_doStep_32 : decode cX6_doStep 32 = .ok (.iconst 1, 1) := by decide +kernel
theorem dX6_doStep_33 : decode cX6_doStep 33 = .ok (.invokevirtual 127, 3) := by decide +kernel
theorem dX6_doStep_36 : decode cX6_doStep 36 = .ok (.istore 5, 2) := by decide +kernel
theorem dX6_doStep_38 : decode cX6_doStep 38 = .ok (.aload_n 0, 1) := by decide +kernel
theorem dX6_doStep_39 : decode cX6_doStep 39 = .ok (.iload_n 2, 1) := by decide +kernel
theorem dX6_doStep_40 : decode cX6_doStep 40 = .ok (.iload_n 3, 1) := by decide +kernel
theorem dX6_doStep_41 : decode cX6_doStep 41 = .ok (.iconst 2, 1) := by decide +kernel
theorem dX6_doStep_42 : decode cX6_doStep 42 = .ok (.invokevirtual 127, 3) := by decide +kernel
theorem dX6_doStep_45 : decode cX6_doStep 45 = .ok (.istore 6, 2) := by decide +kernel
theorem dX6_doStep_47 : decode cX6_doStep 47 = .ok (.aload_n 0, 1) := by decide +kernel
theorem dX6_doStep_48 : decode cX6_doStep 48 = .ok (.iload_n 2, 1) := by decide +kernel
theorem dX6_doStep_49 : decode cX6_doStep 49 = .ok (.iload_n 3, 1) := by decide +kernel
