theorem dX0_init_0 : decode cX0_init 0 = .ok (.aload_n 0, 1) := by decide +kernel
theorem dX0_init_1 : decode cX0_init 1 = .ok (.invokespecial 3, 3) := by decide +kernel
theorem dX0_init_4 : decode cX0_init 4 = .ok (.aload_n 0, 1) := by decide +kernel
theorem dX0_init_5 : decode cX0_init 5 = .ok (.iconst 4, 1) := by decide +kernel
theorem dX0_init_6 : decode cX0_init 6 = .ok (.newarray .int, 2) := by decide +kernel
theorem dX0_init_8 : decode cX0_init 8 = .ok (.putfield 9, 3) := by decide +kernel
theorem dX0_init_11 : decode cX0_init 11 = .ok (.aload_n 0, 1) := by decide +kernel
theorem dX0_init_12 : decode cX0_init 12 = .ok (.iconst 4, 1) := by decide +kernel
theorem dX0_init_13 : decode cX0_init 13 = .ok (.newarray .int, 2) := by decide +kernel
theorem dX0_init_15 : decode cX0_init 15 = .ok (.putfield 15, 3) := by decide +kernel
theorem dX0_init_18 : decode cX0_init 18 = .ok (.aload_n 0, 1) := by decide +kernel
theorem dX0_init_19 : decode cX0_init 19 = .ok (.iconst 0, 1) := by decide +kernel
theorem dX0_init_20 : decode cX0_init 20 = .ok (.putfield 18, 3) := by decide +kernel
theorem dX0_init_23 : decode cX0_init 23 = .ok (.aload_n 0, 1) := by decide +kernel
theorem dX0_init_24 : decode cX0_init 24 = .ok (.iconst 0, 1) := by decide +kernel
theorem dX0_init_25 : decode cX0_init 25 = .ok (.putfield 22, 3) := by decide +kernel
theorem dX0_init_28 : decode cX0_init 28 = .ok (.aload_n 0, 1) := by decide +kernel
theorem dX0_init_29 : decode cX0_init 29 = .ok (.iconst 0, 1) := by decide +kernel
theorem dX0_init_30 : decode cX0_init 30 = .ok (.putfield 25, 3) := by decide +kernel
theorem dX0_init_33 : decode cX0_init 33 = .ok (.aload_n 0, 1) := by decide +kernel
theorem dX0_init_34 : decode cX0_init 34 = .ok (.iconst 0, 1) := by decide +kernel
theorem dX0_init_35 : decode cX0_init 35 = .ok (.putfield 28, 3) := by decide +kernel
theorem dX0_init_38 : decode cX0_init 38 = .ok (.return_, 1) := by decide +kernel
theorem dX0_start_0 : decode cX0_start 0 = .ok (.aload_n 0, 1) := by decide +kernel
theorem dX0_start_1 : decode cX0_start 1 = .ok (.iload_n 1, 1) := by decide +kernel
theorem dX0_start_2 : decode cX0_start 2 = .ok (.putfield 18, 3) := by decide +kernel
theorem dX0_start_5 : decode cX0_start 5 = .ok (.aload_n 0, 1) := by decide +kernel
theorem dX0_start_6 : decode cX0_start 6 = .ok (.iload_n 2, 1) := by decide +kernel
theorem dX0_start_7 : decode cX0_start 7 = .ok (.putfield 22, 3) := by decide +kernel
theorem dX0_start_10 : decode cX0_start 10 = .ok (.aload_n 0, 1) := by decide +kernel
theorem dX0_start_11 : decode cX0_start 11 = .ok (.iconst 0, 1) := by decide +kernel
theorem dX0_start_12 : decode cX0_start 12 = .ok (.putfield 25, 3) := by decide +kernel
theorem dX0_start_15 : decode cX0_start 15 = .ok (.aload_n 0, 1) := by decide +kernel
theorem dX0_start_16 : decode cX0_start 16 = .ok (.getfield 9, 3) := by decide +kernel
theorem dX0_start_19 : decode cX0_start 19 = .ok (.iconst 0, 1) := by decide +kernel
theorem dX0_start_20 : decode cX0_start 20 = .ok (.invokestatic 31, 3) := by decide +kernel
theorem dX0_start_23 : decode cX0_start 23 = .ok (.aload_n 0, 1) := by decide +kernel
theorem dX0_start_24 : decode cX0_start 24 = .ok (.getfield 15, 3) := by decide +kernel
theorem dX0_start_27 : decode cX0_start 27 = .ok (.iconst (-1), 1) := by decide +kernel
theorem dX0_start_28 : decode cX0_start 28 = .ok (.invokestatic 31, 3) := by decide +kernel
theorem dX0_start_31 : decode cX0_start 31 = .ok (.return_, 1) := by decide +kernel
theorem dX0_isInt_0 : decode cX0_isInt 0 = .ok (.aload_n 0, 1) := by decide +kernel
theorem dX0_isInt_1 : decode cX0_isInt 1 = .ok (.getfield 15, 3) := by decide +kernel
theorem dX0_isInt_4 : decode cX0_isInt 4 = .ok (.iload_n 1, 1) := by decide +kernel
theorem dX0_isInt_5 : decode cX0_isInt 5 = .ok (.iaload, 1) := by decide +kernel
theorem dX0_isInt_6 : decode cX0_isInt 6 = .ok (.iconst (-1), 1) := by decide +kernel
theorem dX0_isInt_7 : decode cX0_isInt 7 = .ok (.if_icmp .ne 7, 3) := by decide +kernel
theorem dX0_isInt_10 : decode cX0_isInt 10 = .ok (.iconst 1, 1) := by decide +kernel
theorem dX0_isInt_11 : decode cX0_isInt 11 = .ok (.goto 4, 3) := by decide +kernel
theorem dX0_isInt_14 : decode cX0_isInt 14 = .ok (.iconst 0, 1) := by decide +kernel
theorem dX0_isInt_15 : decode cX0_isInt 15 = .ok (.ireturn, 1) := by decide +kernel
theorem dX0_setInt_0 : decode cX0_setInt 0 = .ok (.aload_n 0, 1) := by decide +kernel
theorem dX0_setInt_1 : decode cX0_setInt 1 = .ok (.iload_n 1, 1) := by decide +kernel
theorem dX0_setInt_2 : decode cX0_setInt 2 = .ok (.iload_n 2, 1) := by decide +kernel
theorem dX0_setInt_3 : decode cX0_setInt 3 = .ok (.iconst (-1), 1) := by decide +kernel
theorem dX0_setInt_4 : decode cX0_setInt 4 = .ok (.invokevirtual 37, 3) := by decide +kernel
theorem dX0_setInt_7 : decode cX0_setInt 7 = .ok (.return_, 1) := by decide +kernel
theorem dX0_put_0 : decode cX0_put 0 = .ok (.aload_n 0, 1) := by decide +kernel
theorem dX0_put_1 : decode cX0_put 1 = .ok (.getfield 9, 3) := by decide +kernel
theorem dX0_put_4 : decode cX0_put 4 = .ok (.iload_n 1, 1) := by decide +kernel
theorem dX0_put_5 : decode cX0_put 5 = .ok (.iload_n 2, 1) := by decide +kernel
theorem dX0_put_6 : decode cX0_put 6 = .ok (.iastore, 1) := by decide +kernel
theorem dX0_put_7 : decode cX0_put 7 = .ok (.aload_n 0, 1) := by decide +kernel
theorem dX0_put_8 : decode cX0_put 8 = .ok (.getfield 15, 3) := by decide +kernel
theorem dX0_put_11 : decode cX0_put 11 = .ok (.iload_n 1, 1) := by decide +kernel
theorem dX0_put_12 : decode cX0_put 12 = .ok (.iload_n 3, 1) := by decide +kernel
theorem dX0_put_13 : decode cX0_put 13 = .ok (.iastore, 1) := by decide +kernel
theorem dX0_put_14 : decode cX0_put 14 = .ok (.return_, 1) := by decide +kernel
theorem dX1_init_0 : decode cX1_init 0 = .ok (.aload_n 0, 1) := by decide +kernel
theorem dX1_init_1 : decode cX1_init 1 = .ok (.invokespecial 3, 3) := by decide +kernel
theorem dX1_init_4 : decode cX1_init 4 = .ok (.aload_n 0, 1) := by decide +kernel
theorem dX1_init_5 : decode cX1_init 5 = .ok (.bipush 8, 2) := by decide +kernel
theorem dX1_init_7 : decode cX1_init 7 = .ok (.newarray .int, 2) := by decide +kernel
theorem dX1_init_9 : decode cX1_init 9 = .ok (.putfield 9, 3) := by decide +kernel
theorem dX1_init_12 : decode cX1_init 12 = .ok (.aload_n 0, 1) := by decide +kernel
theorem dX1_init_13 : decode cX1_init 13 = .ok (.bipush 8, 2) := by decide +kernel
theorem dX1_init_15 : decode cX1_init 15 = .ok (.bipush 6, 2) := by decide +kernel
theorem dX1_init_17 : decode cX1_init 17 = .ok (.multianewarray 15 2, 4) := by decide +kernel
theorem dX1_init_21 : decode cX1_init 21 = .ok (.putfield 17, 3) := by decide +kernel
theorem dX1_init_24 : decode cX1_init 24 = .ok (.aload_n 0, 1) := by decide +kernel
theorem dX1_init_25 : decode cX1_init 25 = .ok (.bipush 8, 2) := by decide +kernel
theorem dX1_init_27 : decode cX1_init 27 = .ok (.newarray .int, 2) := by decide +kernel
theorem dX1_init_29 : decode cX1_init 29 = .ok (.putfield 20, 3) := by decide +kernel
theorem dX1_init_32 : decode cX1_init 32 = .ok (.aload_n 0, 1) := by decide +kernel
theorem dX1_init_33 : decode cX1_init 33 = .ok (.iconst 0, 1) := by decide +kernel
theorem dX1_init_34 : decode cX1_init 34 = .ok (.putfield 23, 3) := by decide +kernel
theorem dX1_init_37 : decode cX1_init 37 = .ok (.return_, 1) := by decide +kernel
theorem dX1_hasClass_0 : decode cX1_hasClass 0 = .ok (.iload_n 1, 1) := by decide +kernel
theorem dX1_hasClass_1 : decode cX1_hasClass 1 = .ok (.ifCond .lt 15, 3) := by decide +kernel
theorem dX1_hasClass_4 : decode cX1_hasClass 4 = .ok (.iload_n 1, 1) := by decide +kernel
theorem dX1_hasClass_5 : decode cX1_hasClass 5 = .ok (.aload_n 0, 1) := by decide +kernel
theorem dX1_hasClass_6 : decode cX1_hasClass 6 = .ok (.getfield 23, 3) := by decide +kernel
theorem dX1_hasClass_9 : decode cX1_hasClass 9 = .ok (.if_icmp .ge 7, 3) := by decide +kernel
theorem dX1_hasClass_12 : decode cX1_hasClass 12 = .ok (.iconst 1, 1) := by decide +kernel
theorem dX1_hasClass_13 : decode cX1_hasClass 13 = .ok (.goto 4, 3) := by decide +kernel
theorem dX1_hasClass_16 : decode cX1_hasClass 16 = .ok (.iconst 0, 1) := by decide +kernel
theorem dX1_hasClass_17 : decode cX1_hasClass 17 = .ok (.ireturn, 1) := by decide +kernel
theorem dX1_addChild_0 : decode cX1_addChild 0 = .ok (.aload_n 0, 1) := by decide +kernel
theorem dX1_addChild_1 : decode cX1_addChild 1 = .ok (.getfield 9, 3) := by decide +kernel
theorem dX1_addChild_4 : decode cX1_addChild 4 = .ok (.aload_n 0, 1) := by decide +kernel
theorem dX1_addChild_5 : decode cX1_addChild 5 = .ok (.getfield 23, 3) := by decide +kernel
theorem dX1_addChild_8 : decode cX1_addChild 8 = .ok (.iload_n 1, 1) := by decide +kernel
theorem dX1_addChild_9 : decode cX1_addChild 9 = .ok (.iastore, 1) := by decide +kernel
theorem dX1_addChild_10 : decode cX1_addChild 10 = .ok (.aload_n 0, 1) := by decide +kernel
theorem dX1_addChild_11 : decode cX1_addChild 11 = .ok (.getfield 17, 3) := by decide +kernel
theorem dX1_addChild_14 : decode cX1_addChild 14 = .ok (.aload_n 0, 1) := by decide +kernel
theorem dX1_addChild_15 : decode cX1_addChild 15 = .ok (.getfield 23, 3) := by decide +kernel
theorem dX1_addChild_18 : decode cX1_addChild 18 = .ok (.aaload, 1) := by decide +kernel
theorem dX1_addChild_19 : decode cX1_addChild 19 = .ok (.iconst (-1), 1) := by decide +kernel
theorem dX1_addChild_20 : decode cX1_addChild 20 = .ok (.invokestatic 27, 3) := by decide +kernel
theorem dX1_addChild_23 : decode cX1_addChild 23 = .ok (.aload_n 0, 1) := by decide +kernel
theorem dX1_addChild_24 : decode cX1_addChild 24 = .ok (.dup, 1) := by decide +kernel
theorem dX1_addChild_25 : decode cX1_addChild 25 = .ok (.getfield 23, 3) := by decide +kernel
theorem dX1_addChild_28 : decode cX1_addChild 28 = .ok (.iconst 1, 1) := by decide +kernel
theorem dX1_addChild_29 : decode cX1_addChild 29 = .ok (.iadd, 1) := by decide +kernel
theorem dX1_addChild_30 : decode cX1_addChild 30 = .ok (.putfield 23, 3) := by decide +kernel
theorem dX1_addChild_33 : decode cX1_addChild 33 = .ok (.aload_n 0, 1) := by decide +kernel
theorem dX1_addChild_34 : decode cX1_addChild 34 = .ok (.getfield 23, 3) := by decide +kernel
theorem dX1_addChild_37 : decode cX1_addChild 37 = .ok (.iconst 1, 1) := by decide +kernel
theorem dX1_addChild_38 : decode cX1_addChild 38 = .ok (.isub, 1) := by decide +kernel
theorem dX1_addChild_39 : decode cX1_addChild 39 = .ok (.ireturn, 1) := by decide +kernel
theorem dX1_setImplementer_0 : decode cX1_setImplementer 0 = .ok (.iconst 0, 1) := by decide +kernel
theorem dX1_setImplementer_1 : decode cX1_setImplementer 1 = .ok (.istore 4, 2) := by decide +kernel
theorem dX1_setImplementer_3 : decode cX1_setImplementer 3 = .ok (.iload 4, 2) := by decide +kernel
theorem dX1_setImplementer_5 : decode cX1_setImplementer 5 = .ok (.aload_n 0, 1) := by decide +kernel
theorem dX1_setImplementer_6 : decode cX1_setImplementer 6 = .ok (.getfield 23, 3) := by decide +kernel
theorem dX1_setImplementer_9 : decode cX1_setImplementer 9 = .ok (.if_icmp .ge 23, 3) := by decide +kernel
theorem dX1_setImplementer_12 : decode cX1_setImplementer 12 = .ok (.aload_n 0, 1) := by decide +kernel
theorem dX1_setImplementer_13 : decode cX1_setImplementer 13 = .ok (.getfield 20, 3) := by decide +kernel
theorem dX1_setImplementer_16 : decode cX1_setImplementer 16 = .ok (.iload 4, 2) := by decide +kernel
theorem dX1_setImplementer_18 : decode cX1_setImplementer 18 = .ok (.aload_n 0, 1) := by decide +kernel
theorem dX1_setImplementer_19 : decode cX1_setImplementer 19 = .ok (.iload 4, 2) := by decide +kernel
theorem dX1_setImplementer_21 : decode cX1_setImplementer 21 = .ok (.iload_n 2, 1) := by decide +kernel
theorem dX1_setImplementer_22 : decode cX1_setImplementer 22 = .ok (.invokevirtual 33, 3) := by decide +kernel
theorem dX1_setImplementer_25 : decode cX1_setImplementer 25 = .ok (.iastore, 1) := by decide +kernel
theorem dX1_setImplementer_26 : decode cX1_setImplementer 26 = .ok (.iinc 4 1, 3) := by decide +kernel
theorem dX1_setImplementer_29 : decode cX1_setImplementer 29 = .ok (.goto (-26), 3) := by decide +kernel
theorem dX1_setImplementer_32 : decode cX1_setImplementer 32 = .ok (.aload_n 0, 1) := by decide +kernel
theorem dX1_setImplementer_33 : decode cX1_setImplementer 33 = .ok (.getfield 17, 3) := by decide +kernel
theorem dX1_setImplementer_36 : decode cX1_setImplementer 36 = .ok (.iload_n 1, 1) := by decide +kernel
theorem dX1_setImplementer_37 : decode cX1_setImplementer 37 = .ok (.aaload, 1) := by decide +kernel
theorem dX1_setImplementer_38 : decode cX1_setImplementer 38 = .ok (.iload_n 2, 1) := by decide +kernel
theorem dX1_setImplementer_39 : decode cX1_setImplementer 39 = .ok (.iload_n 3, 1) := by decide +kernel
theorem dX1_setImplementer_40 : decode cX1_setImplementer 40 = .ok (.iastore, 1) := by decide +kernel
theorem dX1_setImplementer_41 : decode cX1_setImplementer 41 = .ok (.return_, 1) := by decide +kernel
theorem dX1_hasChanged_0 : decode cX1_hasChanged 0 = .ok (.aload_n 0, 1) := by decide +kernel
theorem dX1_hasChanged_1 : decode cX1_hasChanged 1 = .ok (.getfield 20, 3) := by decide +kernel
theorem dX1_hasChanged_4 : decode cX1_hasChanged 4 = .ok (.iload_n 1, 1) := by decide +kernel
theorem dX1_hasChanged_5 : decode cX1_hasChanged 5 = .ok (.iaload, 1) := by decide +kernel
theorem dX1_hasChanged_6 : decode cX1_hasChanged 6 = .ok (.aload_n 0, 1) := by decide +kernel
theorem dX1_hasChanged_7 : decode cX1_hasChanged 7 = .ok (.iload_n 1, 1) := by decide +kernel
theorem dX1_hasChanged_8 : decode cX1_hasChanged 8 = .ok (.iload_n 2, 1) := by decide +kernel
theorem dX1_hasChanged_9 : decode cX1_hasChanged 9 = .ok (.invokevirtual 33, 3) := by decide +kernel
theorem dX1_hasChanged_12 : decode cX1_hasChanged 12 = .ok (.if_icmp .eq 7, 3) := by decide +kernel
theorem dX1_hasChanged_15 : decode cX1_hasChanged 15 = .ok (.iconst 1, 1) := by decide +kernel
theorem dX1_hasChanged_16 : decode cX1_hasChanged 16 = .ok (.goto 4, 3) := by decide +kernel
theorem dX1_hasChanged_19 : decode cX1_hasChanged 19 = .ok (.iconst 0, 1) := by decide +kernel
theorem dX1_hasChanged_20 : decode cX1_hasChanged 20 = .ok (.ireturn, 1) := by decide +kernel
theorem dX1_understood_0 : decode cX1_understood 0 = .ok (.iload_n 1, 1) := by decide +kernel
theorem dX1_understood_1 : decode cX1_understood 1 = .ok (.istore_n 3, 1) := by decide +kernel
theorem dX1_understood_2 : decode cX1_understood 2 = .ok (.iconst 0, 1) := by decide +kernel
theorem dX1_understood_3 : decode cX1_understood 3 = .ok (.istore 4, 2) := by decide +kernel
theorem dX1_understood_5 : decode cX1_understood 5 = .ok (.iload 4, 2) := by decide +kernel
theorem dX1_understood_7 : decode cX1_understood 7 = .ok (.bipush 8, 2) := by decide +kernel
theorem dX1_understood_9 : decode cX1_understood 9 = .ok (.if_icmp .ge 45, 3) := by decide +kernel
theorem dX1_understood_12 : decode cX1_understood 12 = .ok (.aload_n 0, 1) := by decide +kernel
theorem dX1_understood_13 : decode cX1_understood 13 = .ok (.iload_n 3, 1) := by decide +kernel
theorem dX1_understood_14 : decode cX1_understood 14 = .ok (.invokevirtual 37, 3) := by decide +kernel
theorem dX1_understood_17 : decode cX1_understood 17 = .ok (.ifCond .eq 37, 3) := by decide +kernel
theorem dX1_understood_20 : decode cX1_understood 20 = .ok (.aload_n 0, 1) := by decide +kernel
theorem dX1_understood_21 : decode cX1_understood 21 = .ok (.getfield 17, 3) := by decide +kernel
theorem dX1_understood_24 : decode cX1_understood 24 = .ok (.iload_n 3, 1) := by decide +kernel
theorem dX1_understood_25 : decode cX1_understood 25 = .ok (.aaload, 1) := by decide +kernel
theorem dX1_understood_26 : decode cX1_understood 26 = .ok (.iload_n 2, 1) := by decide +kernel
theorem dX1_understood_27 : decode cX1_understood 27 = .ok (.iaload, 1) := by decide +kernel
theorem dX1_understood_28 : decode cX1_understood 28 = .ok (.iconst (-1), 1) := by decide +kernel
theorem dX1_understood_29 : decode cX1_understood 29 = .ok (.if_icmp .eq 12, 3) := by decide +kernel
theorem dX1_understood_32 : decode cX1_understood 32 = .ok (.aload_n 0, 1) := by decide +kernel
theorem dX1_understood_33 : decode cX1_understood 33 = .ok (.getfield 17, 3) := by decide +kernel
theorem dX1_understood_36 : decode cX1_understood 36 = .ok (.iload_n 3, 1) := by decide +kernel
theorem dX1_understood_37 : decode cX1_understood 37 = .ok (.aaload, 1) := by decide +kernel
theorem dX1_understood_38 : decode cX1_understood 38 = .ok (.iload_n 2, 1) := by decide +kernel
theorem dX1_understood_39 : decode cX1_understood 39 = .ok (.iaload, 1) := by decide +kernel
theorem dX1_understood_40 : decode cX1_understood 40 = .ok (.ireturn, 1) := by decide +kernel
theorem dX1_understood_41 : decode cX1_understood 41 = .ok (.aload_n 0, 1) := by decide +kernel
theorem dX1_understood_42 : decode cX1_understood 42 = .ok (.getfield 9, 3) := by decide +kernel
theorem dX1_understood_45 : decode cX1_understood 45 = .ok (.iload_n 3, 1) := by decide +kernel
theorem dX1_understood_46 : decode cX1_understood 46 = .ok (.iaload, 1) := by decide +kernel
theorem dX1_understood_47 : decode cX1_understood 47 = .ok (.istore_n 3, 1) := by decide +kernel
theorem dX1_understood_48 : decode cX1_understood 48 = .ok (.iinc 4 1, 3) := by decide +kernel
theorem dX1_understood_51 : decode cX1_understood 51 = .ok (.goto (-46), 3) := by decide +kernel
theorem dX1_understood_54 : decode cX1_understood 54 = .ok (.iconst (-1), 1) := by decide +kernel
theorem dX1_understood_55 : decode cX1_understood 55 = .ok (.ireturn, 1) := by decide +kernel
theorem dX1_levels_0 : decode cX1_levels 0 = .ok (.iload_n 1, 1) := by decide +kernel
theorem dX1_levels_1 : decode cX1_levels 1 = .ok (.istore_n 3, 1) := by decide +kernel
theorem dX1_levels_2 : decode cX1_levels 2 = .ok (.iconst 0, 1) := by decide +kernel
theorem dX1_levels_3 : decode cX1_levels 3 = .ok (.istore 4, 2) := by decide +kernel
theorem dX1_levels_5 : decode cX1_levels 5 = .ok (.iconst 0, 1) := by decide +kernel
theorem dX1_levels_6 : decode cX1_levels 6 = .ok (.istore 5, 2) := by decide +kernel
theorem dX1_levels_8 : decode cX1_levels 8 = .ok (.iload 5, 2) := by decide +kernel
theorem dX1_levels_10 : decode cX1_levels 10 = .ok (.bipush 8, 2) := by decide +kernel
theorem dX1_levels_12 : decode cX1_levels 12 = .ok (.if_icmp .ge 42, 3) := by decide +kernel
theorem dX1_levels_15 : decode cX1_levels 15 = .ok (.aload_n 0, 1) := by decide +kernel
theorem dX1_levels_16 : decode cX1_levels 16 = .ok (.iload_n 3, 1) := by decide +kernel
theorem dX1_levels_17 : decode cX1_levels 17 = .ok (.invokevirtual 37, 3) := by decide +kernel
theorem dX1_levels_20 : decode cX1_levels 20 = .ok (.ifCond .eq 34, 3) := by decide +kernel
theorem dX1_levels_23 : decode cX1_levels 23 = .ok (.iinc 4 1, 3) := by decide +kernel
theorem dX1_levels_26 : decode cX1_levels 26 = .ok (.aload_n 0, 1) := by decide +kernel
theorem dX1_levels_27 : decode cX1_levels 27 = .ok (.getfield 17, 3) := by decide +kernel
theorem dX1_levels_30 : decode cX1_levels 30 = .ok (.iload_n 3, 1) := by decide +kernel
theorem dX1_levels_31 : decode cX1_levels 31 = .ok (.aaload, 1) := by decide +kernel
theorem dX1_levels_32 : decode cX1_levels 32 = .ok (.iload_n 2, 1) := by decide +kernel
theorem dX1_levels_33 : decode cX1_levels 33 = .ok (.iaload, 1) := by decide +kernel
theorem dX1_levels_34 : decode cX1_levels 34 = .ok (.iconst (-1), 1) := by decide +kernel
theorem dX1_levels_35 : decode cX1_levels 35 = .ok (.if_icmp .eq 6, 3) := by decide +kernel
theorem dX1_levels_38 : decode cX1_levels 38 = .ok (.iload 4, 2) := by decide +kernel
theorem dX1_levels_40 : decode cX1_levels 40 = .ok (.ireturn, 1) := by decide +kernel
theorem dX1_levels_41 : decode cX1_levels 41 = .ok (.aload_n 0, 1) := by decide +kernel
theorem dX1_levels_42 : decode cX1_levels 42 = .ok (.getfield 9, 3) := by decide +kernel
theorem dX1_levels_45 : decode cX1_levels 45 = .ok (.iload_n 3, 1) := by decide +kernel
theorem dX1_levels_46 : decode cX1_levels 46 = .ok (.iaload, 1) := by decide +kernel
theorem dX1_levels_47 : decode cX1_levels 47 = .ok (.istore_n 3, 1) := by decide +kernel
theorem dX1_levels_48 : decode cX1_levels 48 = .ok (.iinc 5 1, 3) := by decide +kernel
theorem dX1_levels_51 : decode cX1_levels 51 = .ok (.goto (-43), 3) := by decide +kernel
theorem dX1_levels_54 : decode cX1_levels 54 = .ok (.iload 4, 2) := by decide +kernel
theorem dX1_levels_56 : decode cX1_levels 56 = .ok (.ireturn, 1) := by decide +kernel
theorem dX2_init_0 : decode cX2_init 0 = .ok (.aload_n 0, 1) := by decide +kernel
theorem dX2_init_1 : decode cX2_init 1 = .ok (.invokespecial 3, 3) := by decide +kernel
theorem dX2_init_4 : decode cX2_init 4 = .ok (.aload_n 0, 1) := by decide +kernel
theorem dX2_init_5 : decode cX2_init 5 = .ok (.new 9, 3) := by decide +kernel
theorem dX2_init_8 : decode cX2_init 8 = .ok (.dup, 1) := by decide +kernel
theorem dX2_init_9 : decode cX2_init 9 = .ok (.invokespecial 11, 3) := by decide +kernel
theorem dX2_init_12 : decode cX2_init 12 = .ok (.putfield 12, 3) := by decide +kernel
theorem dX2_init_15 : decode cX2_init 15 = .ok (.aload_n 0, 1) := by decide +kernel
theorem dX2_init_16 : decode cX2_init 16 = .ok (.new 9, 3) := by decide +kernel
theorem dX2_init_19 : decode cX2_init 19 = .ok (.dup, 1) := by decide +kernel
theorem dX2_init_20 : decode cX2_init 20 = .ok (.invokespecial 11, 3) := by decide +kernel
theorem dX2_init_23 : decode cX2_init 23 = .ok (.putfield 18, 3) := by decide +kernel
theorem dX2_init_26 : decode cX2_init 26 = .ok (.aload_n 0, 1) := by decide +kernel
theorem dX2_init_27 : decode cX2_init 27 = .ok (.iload_n 1, 1) := by decide +kernel
theorem dX2_init_28 : decode cX2_init 28 = .ok (.putfield 21, 3) := by decide +kernel
theorem dX2_init_31 : decode cX2_init 31 = .ok (.aload_n 0, 1) := by decide +kernel
theorem dX2_init_32 : decode cX2_init 32 = .ok (.iload_n 2, 1) := by decide +kernel
theorem dX2_init_33 : decode cX2_init 33 = .ok (.putfield 25, 3) := by decide +kernel
theorem dX2_init_36 : decode cX2_init 36 = .ok (.aload_n 0, 1) := by decide +kernel
theorem dX2_init_37 : decode cX2_init 37 = .ok (.iload_n 3, 1) := by decide +kernel
theorem dX2_init_38 : decode cX2_init 38 = .ok (.putfield 28, 3) := by decide +kernel
theorem dX2_init_41 : decode cX2_init 41 = .ok (.aload_n 0, 1) := by decide +kernel
theorem dX2_init_42 : decode cX2_init 42 = .ok (.iload 4, 2) := by decide +kernel
theorem dX2_init_44 : decode cX2_init 44 = .ok (.putfield 31, 3) := by decide +kernel
theorem dX2_init_47 : decode cX2_init 47 = .ok (.aload_n 0, 1) := by decide +kernel
theorem dX2_init_48 : decode cX2_init 48 = .ok (.iload 5, 2) := by decide +kernel
theorem dX2_init_50 : decode cX2_init 50 = .ok (.putfield 34, 3) := by decide +kernel
theorem dX2_init_53 : decode cX2_init 53 = .ok (.return_, 1) := by decide +kernel
theorem dX2_trustsChange_0 : decode cX2_trustsChange 0 = .ok (.aload_n 0, 1) := by decide +kernel
theorem dX2_trustsChange_1 : decode cX2_trustsChange 1 = .ok (.getfield 21, 3) := by decide +kernel
theorem dX2_trustsChange_4 : decode cX2_trustsChange 4 = .ok (.iconst 5, 1) := by decide +kernel
theorem dX2_trustsChange_5 : decode cX2_trustsChange 5 = .ok (.if_icmp .ne 21, 3) := by decide +kernel
theorem dX2_trustsChange_8 : decode cX2_trustsChange 8 = .ok (.aload_n 0, 1) := by decide +kernel
theorem dX2_trustsChange_9 : decode cX2_trustsChange 9 = .ok (.getfield 28, 3) := by decide +kernel
theorem dX2_trustsChange_12 : decode cX2_trustsChange 12 = .ok (.iload_n 1, 1) := by decide +kernel
theorem dX2_trustsChange_13 : decode cX2_trustsChange 13 = .ok (.if_icmp .ne 13, 3) := by decide +kernel
theorem dX2_trustsChange_16 : decode cX2_trustsChange 16 = .ok (.aload_n 0, 1) := by decide +kernel
theorem dX2_trustsChange_17 : decode cX2_trustsChange 17 = .ok (.getfield 18, 3) := by decide +kernel
theorem dX2_trustsChange_20 : decode cX2_trustsChange 20 = .ok (.getfield 37, 3) := by decide +kernel
theorem dX2_trustsChange_23 : decode cX2_trustsChange 23 = .ok (.ifCond .eq 5, 3) := by decide +kernel
theorem dX2_trustsChange_26 : decode cX2_trustsChange 26 = .ok (.iconst 0, 1) := by decide +kernel
theorem dX2_trustsChange_27 : decode cX2_trustsChange 27 = .ok (.ireturn, 1) := by decide +kernel
theorem dX2_trustsChange_28 : decode cX2_trustsChange 28 = .ok (.iconst 0, 1) := by decide +kernel
theorem dX2_trustsChange_29 : decode cX2_trustsChange 29 = .ok (.istore_n 3, 1) := by decide +kernel
theorem dX2_trustsChange_30 : decode cX2_trustsChange 30 = .ok (.iload_n 3, 1) := by decide +kernel
theorem dX2_trustsChange_31 : decode cX2_trustsChange 31 = .ok (.aload_n 0, 1) := by decide +kernel
theorem dX2_trustsChange_32 : decode cX2_trustsChange 32 = .ok (.getfield 18, 3) := by decide +kernel
theorem dX2_trustsChange_35 : decode cX2_trustsChange 35 = .ok (.getfield 41, 3) := by decide +kernel
theorem dX2_trustsChange_38 : decode cX2_trustsChange 38 = .ok (.if_icmp .ge 28, 3) := by decide +kernel
theorem dX2_trustsChange_41 : decode cX2_trustsChange 41 = .ok (.aload_n 2, 1) := by decide +kernel
theorem dX2_trustsChange_42 : decode cX2_trustsChange 42 = .ok (.aload_n 0, 1) := by decide +kernel
theorem dX2_trustsChange_43 : decode cX2_trustsChange 43 = .ok (.getfield 18, 3) := by decide +kernel
theorem dX2_trustsChange_46 : decode cX2_trustsChange 46 = .ok (.getfield 44, 3) := by decide +kernel
theorem dX2_trustsChange_49 : decode cX2_trustsChange 49 = .ok (.iload_n 3, 1) := by decide +kernel
theorem dX2_trustsChange_50 : decode cX2_trustsChange 50 = .ok (.iaload, 1) := by decide +kernel
theorem dX2_trustsChange_51 : decode cX2_trustsChange 51 = .ok (.iload_n 1, 1) := by decide +kernel
theorem dX2_trustsChange_52 : decode cX2_trustsChange 52 = .ok (.invokevirtual 48, 3) := by decide +kernel
theorem dX2_trustsChange_55 : decode cX2_trustsChange 55 = .ok (.ifCond .eq 5, 3) := by decide +kernel
theorem dX2_trustsChange_58 : decode cX2_trustsChange 58 = .ok (.iconst 1, 1) := by decide +kernel
theorem dX2_trustsChange_59 : decode cX2_trustsChange 59 = .ok (.ireturn, 1) := by decide +kernel
theorem dX2_trustsChange_60 : decode cX2_trustsChange 60 = .ok (.iinc 3 1, 3) := by decide +kernel
theorem dX2_trustsChange_63 : decode cX2_trustsChange 63 = .ok (.goto (-33), 3) := by decide +kernel
theorem dX2_trustsChange_66 : decode cX2_trustsChange 66 = .ok (.iconst 0, 1) := by decide +kernel
theorem dX2_trustsChange_67 : decode cX2_trustsChange 67 = .ok (.ireturn, 1) := by decide +kernel
theorem dX3_init_0 : decode cX3_init 0 = .ok (.aload_n 0, 1) := by decide +kernel
theorem dX3_init_1 : decode cX3_init 1 = .ok (.invokespecial 3, 3) := by decide +kernel
theorem dX3_init_4 : decode cX3_init 4 = .ok (.aload_n 0, 1) := by decide +kernel
theorem dX3_init_5 : decode cX3_init 5 = .ok (.iconst 3, 1) := by decide +kernel
theorem dX3_init_6 : decode cX3_init 6 = .ok (.newarray .int, 2) := by decide +kernel
theorem dX3_init_8 : decode cX3_init 8 = .ok (.putfield 9, 3) := by decide +kernel
theorem dX3_init_11 : decode cX3_init 11 = .ok (.aload_n 0, 1) := by decide +kernel
theorem dX3_init_12 : decode cX3_init 12 = .ok (.iconst 0, 1) := by decide +kernel
theorem dX3_init_13 : decode cX3_init 13 = .ok (.putfield 15, 3) := by decide +kernel
theorem dX3_init_16 : decode cX3_init 16 = .ok (.aload_n 0, 1) := by decide +kernel
theorem dX3_init_17 : decode cX3_init 17 = .ok (.iconst 0, 1) := by decide +kernel
theorem dX3_init_18 : decode cX3_init 18 = .ok (.putfield 19, 3) := by decide +kernel
theorem dX3_init_21 : decode cX3_init 21 = .ok (.return_, 1) := by decide +kernel
theorem dX3_clear_0 : decode cX3_clear 0 = .ok (.aload_n 0, 1) := by decide +kernel
theorem dX3_clear_1 : decode cX3_clear 1 = .ok (.iconst 0, 1) := by decide +kernel
theorem dX3_clear_2 : decode cX3_clear 2 = .ok (.putfield 15, 3) := by decide +kernel
theorem dX3_clear_5 : decode cX3_clear 5 = .ok (.aload_n 0, 1) := by decide +kernel
theorem dX3_clear_6 : decode cX3_clear 6 = .ok (.iconst 0, 1) := by decide +kernel
theorem dX3_clear_7 : decode cX3_clear 7 = .ok (.putfield 19, 3) := by decide +kernel
theorem dX3_clear_10 : decode cX3_clear 10 = .ok (.return_, 1) := by decide +kernel
theorem dX3_find_0 : decode cX3_find 0 = .ok (.iconst 0, 1) := by decide +kernel
theorem dX3_find_1 : decode cX3_find 1 = .ok (.istore_n 2, 1) := by decide +kernel
theorem dX3_find_2 : decode cX3_find 2 = .ok (.iload_n 2, 1) := by decide +kernel
theorem dX3_find_3 : decode cX3_find 3 = .ok (.aload_n 0, 1) := by decide +kernel
theorem dX3_find_4 : decode cX3_find 4 = .ok (.getfield 15, 3) := by decide +kernel
theorem dX3_find_7 : decode cX3_find 7 = .ok (.if_icmp .ge 21, 3) := by decide +kernel
theorem dX3_find_10 : decode cX3_find 10 = .ok (.aload_n 0, 1) := by decide +kernel
theorem dX3_find_11 : decode cX3_find 11 = .ok (.getfield 9, 3) := by decide +kernel
theorem dX3_find_14 : decode cX3_find 14 = .ok (.iload_n 2, 1) := by decide +kernel
theorem dX3_find_15 : decode cX3_find 15 = .ok (.iaload, 1) := by decide +kernel
theorem dX3_find_16 : decode cX3_find 16 = .ok (.iload_n 1, 1) := by decide +kernel
theorem dX3_find_17 : decode cX3_find 17 = .ok (.if_icmp .ne 5, 3) := by decide +kernel
theorem dX3_find_20 : decode cX3_find 20 = .ok (.iload_n 2, 1) := by decide +kernel
theorem dX3_find_21 : decode cX3_find 21 = .ok (.ireturn, 1) := by decide +kernel
theorem dX3_find_22 : decode cX3_find 22 = .ok (.iinc 2 1, 3) := by decide +kernel
theorem dX3_find_25 : decode cX3_find 25 = .ok (.goto (-23), 3) := by decide +kernel
theorem dX3_find_28 : decode cX3_find 28 = .ok (.iconst (-1), 1) := by decide +kernel
theorem dX3_find_29 : decode cX3_find 29 = .ok (.ireturn, 1) := by decide +kernel
theorem dX3_note_0 : decode cX3_note 0 = .ok (.aload_n 0, 1) := by decide +kernel
theorem dX3_note_1 : decode cX3_note 1 = .ok (.iload_n 1, 1) := by decide +kernel
theorem dX3_note_2 : decode cX3_note 2 = .ok (.invokevirtual 23, 3) := by decide +kernel
theorem dX3_note_5 : decode cX3_note 5 = .ok (.iconst (-1), 1) := by decide +kernel
theorem dX3_note_6 : decode cX3_note 6 = .ok (.if_icmp .eq 4, 3) := by decide +kernel
theorem dX3_note_9 : decode cX3_note 9 = .ok (.return_, 1) := by decide +kernel
theorem dX3_note_10 : decode cX3_note 10 = .ok (.aload_n 0, 1) := by decide +kernel
theorem dX3_note_11 : decode cX3_note 11 = .ok (.getfield 15, 3) := by decide +kernel
theorem dX3_note_14 : decode cX3_note 14 = .ok (.iconst 3, 1) := by decide +kernel
theorem dX3_note_15 : decode cX3_note 15 = .ok (.if_icmp .ge 26, 3) := by decide +kernel
theorem dX3_note_18 : decode cX3_note 18 = .ok (.aload_n 0, 1) := by decide +kernel
theorem dX3_note_19 : decode cX3_note 19 = .ok (.getfield 9, 3) := by decide +kernel
theorem dX3_note_22 : decode cX3_note 22 = .ok (.aload_n 0, 1) := by decide +kernel
theorem dX3_note_23 : decode cX3_note 23 = .ok (.getfield 15, 3) := by decide +kernel
theorem dX3_note_26 : decode cX3_note 26 = .ok (.iload_n 1, 1) := by decide +kernel
theorem dX3_note_27 : decode cX3_note 27 = .ok (.iastore, 1) := by decide +kernel
theorem dX3_note_28 : decode cX3_note 28 = .ok (.aload_n 0, 1) := by decide +kernel
theorem dX3_note_29 : decode cX3_note 29 = .ok (.dup, 1) := by decide +kernel
theorem dX3_note_30 : decode cX3_note 30 = .ok (.getfield 15, 3) := by decide +kernel
theorem dX3_note_33 : decode cX3_note 33 = .ok (.iconst 1, 1) := by decide +kernel
theorem dX3_note_34 : decode cX3_note 34 = .ok (.iadd, 1) := by decide +kernel
theorem dX3_note_35 : decode cX3_note 35 = .ok (.putfield 15, 3) := by decide +kernel
theorem dX3_note_38 : decode cX3_note 38 = .ok (.goto 8, 3) := by decide +kernel
theorem dX3_note_41 : decode cX3_note 41 = .ok (.aload_n 0, 1) := by decide +kernel
theorem dX3_note_42 : decode cX3_note 42 = .ok (.iconst 1, 1) := by decide +kernel
theorem dX3_note_43 : decode cX3_note 43 = .ok (.putfield 19, 3) := by decide +kernel
theorem dX3_note_46 : decode cX3_note 46 = .ok (.return_, 1) := by decide +kernel
theorem dX3_copyFrom_0 : decode cX3_copyFrom 0 = .ok (.aload_n 1, 1) := by decide +kernel
theorem dX3_copyFrom_1 : decode cX3_copyFrom 1 = .ok (.getfield 9, 3) := by decide +kernel
theorem dX3_copyFrom_4 : decode cX3_copyFrom 4 = .ok (.iconst 0, 1) := by decide +kernel
theorem dX3_copyFrom_5 : decode cX3_copyFrom 5 = .ok (.aload_n 0, 1) := by decide +kernel
theorem dX3_copyFrom_6 : decode cX3_copyFrom 6 = .ok (.getfield 9, 3) := by decide +kernel
theorem dX3_copyFrom_9 : decode cX3_copyFrom 9 = .ok (.iconst 0, 1) := by decide +kernel
theorem dX3_copyFrom_10 : decode cX3_copyFrom 10 = .ok (.iconst 3, 1) := by decide +kernel
theorem dX3_copyFrom_11 : decode cX3_copyFrom 11 = .ok (.invokestatic 27, 3) := by decide +kernel
theorem dX3_copyFrom_14 : decode cX3_copyFrom 14 = .ok (.aload_n 0, 1) := by decide +kernel
theorem dX3_copyFrom_15 : decode cX3_copyFrom 15 = .ok (.aload_n 1, 1) := by decide +kernel
theorem dX3_copyFrom_16 : decode cX3_copyFrom 16 = .ok (.getfield 15, 3) := by decide +kernel
theorem dX3_copyFrom_19 : decode cX3_copyFrom 19 = .ok (.putfield 15, 3) := by decide +kernel
theorem dX3_copyFrom_22 : decode cX3_copyFrom 22 = .ok (.aload_n 0, 1) := by decide +kernel
theorem dX3_copyFrom_23 : decode cX3_copyFrom 23 = .ok (.aload_n 1, 1) := by decide +kernel
theorem dX3_copyFrom_24 : decode cX3_copyFrom 24 = .ok (.getfield 19, 3) := by decide +kernel
theorem dX3_copyFrom_27 : decode cX3_copyFrom 27 = .ok (.putfield 19, 3) := by decide +kernel
theorem dX3_copyFrom_30 : decode cX3_copyFrom 30 = .ok (.return_, 1) := by decide +kernel
theorem dX3_told_0 : decode cX3_told 0 = .ok (.aload_n 0, 1) := by decide +kernel
theorem dX3_told_1 : decode cX3_told 1 = .ok (.getfield 19, 3) := by decide +kernel
theorem dX3_told_4 : decode cX3_told 4 = .ok (.ifCond .eq 7, 3) := by decide +kernel
theorem dX3_told_7 : decode cX3_told 7 = .ok (.iconst 4, 1) := by decide +kernel
theorem dX3_told_8 : decode cX3_told 8 = .ok (.goto 7, 3) := by decide +kernel
theorem dX3_told_11 : decode cX3_told 11 = .ok (.aload_n 0, 1) := by decide +kernel
theorem dX3_told_12 : decode cX3_told 12 = .ok (.getfield 15, 3) := by decide +kernel
theorem dX3_told_15 : decode cX3_told 15 = .ok (.ireturn, 1) := by decide +kernel
theorem dX4_init_0 : decode cX4_init 0 = .ok (.aload_n 0, 1) := by decide +kernel
theorem dX4_init_1 : decode cX4_init 1 = .ok (.invokespecial 3, 3) := by decide +kernel
theorem dX4_init_4 : decode cX4_init 4 = .ok (.aload_n 0, 1) := by decide +kernel
theorem dX4_init_5 : decode cX4_init 5 = .ok (.new 9, 3) := by decide +kernel
theorem dX4_init_8 : decode cX4_init 8 = .ok (.dup, 1) := by decide +kernel
theorem dX4_init_9 : decode cX4_init 9 = .ok (.invokespecial 11, 3) := by decide +kernel
theorem dX4_init_12 : decode cX4_init 12 = .ok (.putfield 12, 3) := by decide +kernel
theorem dX4_init_15 : decode cX4_init 15 = .ok (.aload_n 0, 1) := by decide +kernel
theorem dX4_init_16 : decode cX4_init 16 = .ok (.iconst 0, 1) := by decide +kernel
theorem dX4_init_17 : decode cX4_init 17 = .ok (.putfield 18, 3) := by decide +kernel
theorem dX4_init_20 : decode cX4_init 20 = .ok (.aload_n 0, 1) := by decide +kernel
theorem dX4_init_21 : decode cX4_init 21 = .ok (.iconst 0, 1) := by decide +kernel
theorem dX4_init_22 : decode cX4_init 22 = .ok (.putfield 22, 3) := by decide +kernel
theorem dX4_init_25 : decode cX4_init 25 = .ok (.aload_n 0, 1) := by decide +kernel
theorem dX4_init_26 : decode cX4_init 26 = .ok (.iconst 0, 1) := by decide +kernel
theorem dX4_init_27 : decode cX4_init 27 = .ok (.putfield 25, 3) := by decide +kernel
theorem dX4_init_30 : decode cX4_init 30 = .ok (.return_, 1) := by decide +kernel
theorem dX4_length_0 : decode cX4_length 0 = .ok (.aload_n 0, 1) := by decide +kernel
theorem dX4_length_1 : decode cX4_length 1 = .ok (.getfield 12, 3) := by decide +kernel
theorem dX4_length_4 : decode cX4_length 4 = .ok (.invokevirtual 28, 3) := by decide +kernel
theorem dX4_length_7 : decode cX4_length 7 = .ok (.ireturn, 1) := by decide +kernel
theorem dX4_hasPlace_0 : decode cX4_hasPlace 0 = .ok (.iload_n 1, 1) := by decide +kernel
theorem dX4_hasPlace_1 : decode cX4_hasPlace 1 = .ok (.ifCond .lt 18, 3) := by decide +kernel
theorem dX4_hasPlace_4 : decode cX4_hasPlace 4 = .ok (.iload_n 1, 1) := by decide +kernel
theorem dX4_hasPlace_5 : decode cX4_hasPlace 5 = .ok (.aload_n 0, 1) := by decide +kernel
theorem dX4_hasPlace_6 : decode cX4_hasPlace 6 = .ok (.getfield 12, 3) := by decide +kernel
theorem dX4_hasPlace_9 : decode cX4_hasPlace 9 = .ok (.invokevirtual 28, 3) := by decide +kernel
theorem dX4_hasPlace_12 : decode cX4_hasPlace 12 = .ok (.if_icmp .ge 7, 3) := by decide +kernel
theorem dX4_hasPlace_15 : decode cX4_hasPlace 15 = .ok (.iconst 1, 1) := by decide +kernel
theorem dX4_hasPlace_16 : decode cX4_hasPlace 16 = .ok (.goto 4, 3) := by decide +kernel
theorem dX4_hasPlace_19 : decode cX4_hasPlace 19 = .ok (.iconst 0, 1) := by decide +kernel
theorem dX4_hasPlace_20 : decode cX4_hasPlace 20 = .ok (.ireturn, 1) := by decide +kernel
theorem dX4_cool_0 : decode cX4_cool 0 = .ok (.aload_n 0, 1) := by decide +kernel
theorem dX4_cool_1 : decode cX4_cool 1 = .ok (.iconst 0, 1) := by decide +kernel
theorem dX4_cool_2 : decode cX4_cool 2 = .ok (.putfield 18, 3) := by decide +kernel
theorem dX4_cool_5 : decode cX4_cool 5 = .ok (.aload_n 0, 1) := by decide +kernel
theorem dX4_cool_6 : decode cX4_cool 6 = .ok (.iconst 0, 1) := by decide +kernel
theorem dX4_cool_7 : decode cX4_cool 7 = .ok (.putfield 22, 3) := by decide +kernel
theorem dX4_cool_10 : decode cX4_cool 10 = .ok (.return_, 1) := by decide +kernel
theorem dX4_unlearn_0 : decode cX4_unlearn 0 = .ok (.aload_n 0, 1) := by decide +kernel
theorem dX4_unlearn_1 : decode cX4_unlearn 1 = .ok (.invokevirtual 32, 3) := by decide +kernel
theorem dX4_unlearn_4 : decode cX4_unlearn 4 = .ok (.aload_n 0, 1) := by decide +kernel
theorem dX4_unlearn_5 : decode cX4_unlearn 5 = .ok (.iconst 0, 1) := by decide +kernel
theorem dX4_unlearn_6 : decode cX4_unlearn 6 = .ok (.putfield 25, 3) := by decide +kernel
theorem dX4_unlearn_9 : decode cX4_unlearn 9 = .ok (.iconst 0, 1) := by decide +kernel
theorem dX4_unlearn_10 : decode cX4_unlearn 10 = .ok (.istore_n 1, 1) := by decide +kernel
theorem dX4_unlearn_11 : decode cX4_unlearn 11 = .ok (.iload_n 1, 1) := by decide +kernel
theorem dX4_unlearn_12 : decode cX4_unlearn 12 = .ok (.aload_n 0, 1) := by decide +kernel
theorem dX4_unlearn_13 : decode cX4_unlearn 13 = .ok (.getfield 12, 3) := by decide +kernel
theorem dX4_unlearn_16 : decode cX4_unlearn 16 = .ok (.invokevirtual 28, 3) := by decide +kernel
theorem dX4_unlearn_19 : decode cX4_unlearn 19 = .ok (.if_icmp .ge 26, 3) := by decide +kernel
theorem dX4_unlearn_22 : decode cX4_unlearn 22 = .ok (.aload_n 0, 1) := by decide +kernel
theorem dX4_unlearn_23 : decode cX4_unlearn 23 = .ok (.getfield 12, 3) := by decide +kernel
theorem dX4_unlearn_26 : decode cX4_unlearn 26 = .ok (.iload_n 1, 1) := by decide +kernel
theorem dX4_unlearn_27 : decode cX4_unlearn 27 = .ok (.invokevirtual 35, 3) := by decide +kernel
theorem dX4_unlearn_30 : decode cX4_unlearn 30 = .ok (.checkcast 39, 3) := by decide +kernel
theorem dX4_unlearn_33 : decode cX4_unlearn 33 = .ok (.getfield 41, 3) := by decide +kernel
theorem dX4_unlearn_36 : decode cX4_unlearn 36 = .ok (.invokevirtual 45, 3) := by decide +kernel
theorem dX4_unlearn_39 : decode cX4_unlearn 39 = .ok (.iinc 1 1, 3) := by decide +kernel
theorem dX4_unlearn_42 : decode cX4_unlearn 42 = .ok (.goto (-31), 3) := by decide +kernel
theorem dX4_unlearn_45 : decode cX4_unlearn 45 = .ok (.return_, 1) := by decide +kernel
theorem dX4_trustRecords_0 : decode cX4_trustRecords 0 = .ok (.iconst 0, 1) := by decide +kernel
theorem dX4_trustRecords_1 : decode cX4_trustRecords 1 = .ok (.istore_n 1, 1) := by decide +kernel
theorem dX4_trustRecords_2 : decode cX4_trustRecords 2 = .ok (.iload_n 1, 1) := by decide +kernel
theorem dX4_trustRecords_3 : decode cX4_trustRecords 3 = .ok (.aload_n 0, 1) := by decide +kernel
theorem dX4_trustRecords_4 : decode cX4_trustRecords 4 = .ok (.getfield 12, 3) := by decide +kernel
theorem dX4_trustRecords_7 : decode cX4_trustRecords 7 = .ok (.invokevirtual 28, 3) := by decide +kernel
theorem dX4_trustRecords_10 : decode cX4_trustRecords 10 = .ok (.if_icmp .ge 40, 3) := by decide +kernel
theorem dX4_trustRecords_13 : decode cX4_trustRecords 13 = .ok (.aload_n 0, 1) := by decide +kernel
theorem dX4_trustRecords_14 : decode cX4_trustRecords 14 = .ok (.getfield 12, 3) := by decide +kernel
theorem dX4_trustRecords_17 : decode cX4_trustRecords 17 = .ok (.iload_n 1, 1) := by decide +kernel
theorem dX4_trustRecords_18 : decode cX4_trustRecords 18 = .ok (.invokevirtual 35, 3) := by decide +kernel
theorem dX4_trustRecords_21 : decode cX4_trustRecords 21 = .ok (.checkcast 39, 3) := by decide +kernel
theorem dX4_trustRecords_24 : decode cX4_trustRecords 24 = .ok (.getfield 50, 3) := by decide +kernel
theorem dX4_trustRecords_27 : decode cX4_trustRecords 27 = .ok (.aload_n 0, 1) := by decide +kernel
theorem dX4_trustRecords_28 : decode cX4_trustRecords 28 = .ok (.getfield 12, 3) := by decide +kernel
theorem dX4_trustRecords_31 : decode cX4_trustRecords 31 = .ok (.iload_n 1, 1) := by decide +kernel
theorem dX4_trustRecords_32 : decode cX4_trustRecords 32 = .ok (.invokevirtual 35, 3) := by decide +kernel
theorem dX4_trustRecords_35 : decode cX4_trustRecords 35 = .ok (.checkcast 39, 3) := by decide +kernel
theorem dX4_trustRecords_38 : decode cX4_trustRecords 38 = .ok (.getfield 41, 3) := by decide +kernel
theorem dX4_trustRecords_41 : decode cX4_trustRecords 41 = .ok (.invokevirtual 53, 3) := by decide +kernel
theorem dX4_trustRecords_44 : decode cX4_trustRecords 44 = .ok (.iinc 1 1, 3) := by decide +kernel
theorem dX4_trustRecords_47 : decode cX4_trustRecords 47 = .ok (.goto (-45), 3) := by decide +kernel
theorem dX4_trustRecords_50 : decode cX4_trustRecords 50 = .ok (.return_, 1) := by decide +kernel
theorem dX4_hasTrustingSend_0 : decode cX4_hasTrustingSend 0 = .ok (.iconst 0, 1) := by decide +kernel
theorem dX4_hasTrustingSend_1 : decode cX4_hasTrustingSend 1 = .ok (.istore_n 3, 1) := by decide +kernel
theorem dX4_hasTrustingSend_2 : decode cX4_hasTrustingSend 2 = .ok (.iload_n 3, 1) := by decide +kernel
theorem dX4_hasTrustingSend_3 : decode cX4_hasTrustingSend 3 = .ok (.aload_n 0, 1) := by decide +kernel
theorem dX4_hasTrustingSend_4 : decode cX4_hasTrustingSend 4 = .ok (.getfield 12, 3) := by decide +kernel
theorem dX4_hasTrustingSend_7 : decode cX4_hasTrustingSend 7 = .ok (.invokevirtual 28, 3) := by decide +kernel
theorem dX4_hasTrustingSend_10 : decode cX4_hasTrustingSend 10 = .ok (.if_icmp .ge 30, 3) := by decide +kernel
theorem dX4_hasTrustingSend_13 : decode cX4_hasTrustingSend 13 = .ok (.aload_n 0, 1) := by decide +kernel
theorem dX4_hasTrustingSend_14 : decode cX4_hasTrustingSend 14 = .ok (.getfield 12, 3) := by decide +kernel
theorem dX4_hasTrustingSend_17 : decode cX4_hasTrustingSend 17 = .ok (.iload_n 3, 1) := by decide +kernel
theorem dX4_hasTrustingSend_18 : decode cX4_hasTrustingSend 18 = .ok (.invokevirtual 35, 3) := by decide +kernel
theorem dX4_hasTrustingSend_21 : decode cX4_hasTrustingSend 21 = .ok (.checkcast 39, 3) := by decide +kernel
theorem dX4_hasTrustingSend_24 : decode cX4_hasTrustingSend 24 = .ok (.iload_n 1, 1) := by decide +kernel
theorem dX4_hasTrustingSend_25 : decode cX4_hasTrustingSend 25 = .ok (.aload_n 2, 1) := by decide +kernel
theorem dX4_hasTrustingSend_26 : decode cX4_hasTrustingSend 26 = .ok (.invokevirtual 57, 3) := by decide +kernel
theorem dX4_hasTrustingSend_29 : decode cX4_hasTrustingSend 29 = .ok (.ifCond .eq 5, 3) := by decide +kernel
theorem dX4_hasTrustingSend_32 : decode cX4_hasTrustingSend 32 = .ok (.iconst 1, 1) := by decide +kernel
theorem dX4_hasTrustingSend_33 : decode cX4_hasTrustingSend 33 = .ok (.ireturn, 1) := by decide +kernel
theorem dX4_hasTrustingSend_34 : decode cX4_hasTrustingSend 34 = .ok (.iinc 3 1, 3) := by decide +kernel
theorem dX4_hasTrustingSend_37 : decode cX4_hasTrustingSend 37 = .ok (.goto (-35), 3) := by decide +kernel
theorem dX4_hasTrustingSend_40 : decode cX4_hasTrustingSend 40 = .ok (.iconst 0, 1) := by decide +kernel
theorem dX4_hasTrustingSend_41 : decode cX4_hasTrustingSend 41 = .ok (.ireturn, 1) := by decide +kernel
theorem dX4_mixInto_0 : decode cX4_mixInto 0 = .ok (.lload_n 1, 1) := by decide +kernel
theorem dX4_mixInto_1 : decode cX4_mixInto 1 = .ok (.lstore_n 3, 1) := by decide +kernel
theorem dX4_mixInto_2 : decode cX4_mixInto 2 = .ok (.lload_n 3, 1) := by decide +kernel
theorem dX4_mixInto_3 : decode cX4_mixInto 3 = .ok (.ldc2_w 61, 3) := by decide +kernel
theorem dX4_mixInto_6 : decode cX4_mixInto 6 = .ok (.lmul, 1) := by decide +kernel
theorem dX4_mixInto_7 : decode cX4_mixInto 7 = .ok (.aload_n 0, 1) := by decide +kernel
theorem dX4_mixInto_8 : decode cX4_mixInto 8 = .ok (.getfield 12, 3) := by decide +kernel
theorem dX4_mixInto_11 : decode cX4_mixInto 11 = .ok (.invokevirtual 28, 3) := by decide +kernel
theorem dX4_mixInto_14 : decode cX4_mixInto 14 = .ok (.i2l, 1) := by decide +kernel
theorem dX4_mixInto_15 : decode cX4_mixInto 15 = .ok (.ladd, 1) := by decide +kernel
theorem dX4_mixInto_16 : decode cX4_mixInto 16 = .ok (.lstore_n 3, 1) := by decide +kernel
theorem dX4_mixInto_17 : decode cX4_mixInto 17 = .ok (.lload_n 3, 1) := by decide +kernel
theorem dX4_mixInto_18 : decode cX4_mixInto 18 = .ok (.ldc2_w 61, 3) := by decide +kernel
theorem dX4_mixInto_21 : decode cX4_mixInto 21 = .ok (.lmul, 1) := by decide +kernel
theorem dX4_mixInto_22 : decode cX4_mixInto 22 = .ok (.aload_n 0, 1) := by decide +kernel
theorem dX4_mixInto_23 : decode cX4_mixInto 23 = .ok (.getfield 18, 3) := by decide +kernel
theorem dX4_mixInto_26 : decode cX4_mixInto 26 = .ok (.i2l, 1) := by decide +kernel
theorem dX4_mixInto_27 : decode cX4_mixInto 27 = .ok (.ladd, 1) := by decide +kernel
theorem dX4_mixInto_28 : decode cX4_mixInto 28 = .ok (.lstore_n 3, 1) := by decide +kernel
theorem dX4_mixInto_29 : decode cX4_mixInto 29 = .ok (.lload_n 3, 1) := by decide +kernel
theorem dX4_mixInto_30 : decode cX4_mixInto 30 = .ok (.ldc2_w 61, 3) := by decide +kernel
theorem dX4_mixInto_33 : decode cX4_mixInto 33 = .ok (.lmul, 1) := by decide +kernel
theorem dX4_mixInto_34 : decode cX4_mixInto 34 = .ok (.aload_n 0, 1) := by decide +kernel
theorem dX4_mixInto_35 : decode cX4_mixInto 35 = .ok (.getfield 22, 3) := by decide +kernel
theorem dX4_mixInto_38 : decode cX4_mixInto 38 = .ok (.i2l, 1) := by decide +kernel
theorem dX4_mixInto_39 : decode cX4_mixInto 39 = .ok (.ladd, 1) := by decide +kernel
theorem dX4_mixInto_40 : decode cX4_mixInto 40 = .ok (.lstore_n 3, 1) := by decide +kernel
theorem dX4_mixInto_41 : decode cX4_mixInto 41 = .ok (.lload_n 3, 1) := by decide +kernel
theorem dX4_mixInto_42 : decode cX4_mixInto 42 = .ok (.ldc2_w 61, 3) := by decide +kernel
theorem dX4_mixInto_45 : decode cX4_mixInto 45 = .ok (.lmul, 1) := by decide +kernel
theorem dX4_mixInto_46 : decode cX4_mixInto 46 = .ok (.aload_n 0, 1) := by decide +kernel
theorem dX4_mixInto_47 : decode cX4_mixInto 47 = .ok (.getfield 25, 3) := by decide +kernel
theorem dX4_mixInto_50 : decode cX4_mixInto 50 = .ok (.i2l, 1) := by decide +kernel
theorem dX4_mixInto_51 : decode cX4_mixInto 51 = .ok (.ladd, 1) := by decide +kernel
theorem dX4_mixInto_52 : decode cX4_mixInto 52 = .ok (.lstore_n 3, 1) := by decide +kernel
theorem dX4_mixInto_53 : decode cX4_mixInto 53 = .ok (.iconst 0, 1) := by decide +kernel
theorem dX4_mixInto_54 : decode cX4_mixInto 54 = .ok (.istore 5, 2) := by decide +kernel
theorem dX4_mixInto_56 : decode cX4_mixInto 56 = .ok (.iload 5, 2) := by decide +kernel
theorem dX4_mixInto_58 : decode cX4_mixInto 58 = .ok (.aload_n 0, 1) := by decide +kernel
theorem dX4_mixInto_59 : decode cX4_mixInto 59 = .ok (.getfield 12, 3) := by decide +kernel
theorem dX4_mixInto_62 : decode cX4_mixInto 62 = .ok (.invokevirtual 28, 3) := by decide +kernel
theorem dX4_mixInto_65 : decode cX4_mixInto 65 = .ok (.if_icmp .ge 54, 3) := by decide +kernel
theorem dX4_mixInto_68 : decode cX4_mixInto 68 = .ok (.aload_n 0, 1) := by decide +kernel
theorem dX4_mixInto_69 : decode cX4_mixInto 69 = .ok (.getfield 12, 3) := by decide +kernel
theorem dX4_mixInto_72 : decode cX4_mixInto 72 = .ok (.iload 5, 2) := by decide +kernel
theorem dX4_mixInto_74 : decode cX4_mixInto 74 = .ok (.invokevirtual 35, 3) := by decide +kernel
theorem dX4_mixInto_77 : decode cX4_mixInto 77 = .ok (.checkcast 39, 3) := by decide +kernel
theorem dX4_mixInto_80 : decode cX4_mixInto 80 = .ok (.getfield 63, 3) := by decide +kernel
theorem dX4_mixInto_83 : decode cX4_mixInto 83 = .ok (.iconst 5, 1) := by decide +kernel
theorem dX4_mixInto_84 : decode cX4_mixInto 84 = .ok (.if_icmp .ne 29, 3) := by decide +kernel
theorem dX4_mixInto_87 : decode cX4_mixInto 87 = .ok (.lload_n 3, 1) := by decide +kernel
theorem dX4_mixInto_88 : decode cX4_mixInto 88 = .ok (.ldc2_w 61, 3) := by decide +kernel
theorem dX4_mixInto_91 : decode cX4_mixInto 91 = .ok (.lmul, 1) := by decide +kernel
theorem dX4_mixInto_92 : decode cX4_mixInto 92 = .ok (.aload_n 0, 1) := by decide +kernel
theorem dX4_mixInto_93 : decode cX4_mixInto 93 = .ok (.getfield 12, 3) := by decide +kernel
theorem dX4_mixInto_96 : decode cX4_mixInto 96 = .ok (.iload 5, 2) := by decide +kernel
theorem dX4_mixInto_98 : decode cX4_mixInto 98 = .ok (.invokevirtual 35, 3) := by decide +kernel
theorem dX4_mixInto_101 : decode cX4_mixInto 101 = .ok (.checkcast 39, 3) := by decide +kernel
theorem dX4_mixInto_104 : decode cX4_mixInto 104 = .ok (.getfield 41, 3) := by decide +kernel
theorem dX4_mixInto_107 : decode cX4_mixInto 107 = .ok (.invokevirtual 66, 3) := by decide +kernel
theorem dX4_mixInto_110 : decode cX4_mixInto 110 = .ok (.i2l, 1) := by decide +kernel
theorem dX4_mixInto_111 : decode cX4_mixInto 111 = .ok (.ladd, 1) := by decide +kernel
theorem dX4_mixInto_112 : decode cX4_mixInto 112 = .ok (.lstore_n 3, 1) := by decide +kernel
theorem dX4_mixInto_113 : decode cX4_mixInto 113 = .ok (.iinc 5 1, 3) := by decide +kernel
theorem dX4_mixInto_116 : decode cX4_mixInto 116 = .ok (.goto (-60), 3) := by decide +kernel
theorem dX4_mixInto_119 : decode cX4_mixInto 119 = .ok (.lload_n 3, 1) := by decide +kernel
theorem dX4_mixInto_120 : decode cX4_mixInto 120 = .ok (.lreturn, 1) := by decide +kernel
theorem dX5_init_0 : decode cX5_init 0 = .ok (.aload_n 0, 1) := by decide +kernel
theorem dX5_init_1 : decode cX5_init 1 = .ok (.invokespecial 1, 3) := by decide +kernel
theorem dX5_init_4 : decode cX5_init 4 = .ok (.aload_n 0, 1) := by decide +kernel
theorem dX5_init_5 : decode cX5_init 5 = .ok (.new 7, 3) := by decide +kernel
theorem dX5_init_8 : decode cX5_init 8 = .ok (.dup, 1) := by decide +kernel
theorem dX5_init_9 : decode cX5_init 9 = .ok (.invokespecial 9, 3) := by decide +kernel
theorem dX5_init_12 : decode cX5_init 12 = .ok (.putfield 10, 3) := by decide +kernel
theorem dX5_init_15 : decode cX5_init 15 = .ok (.aload_n 0, 1) := by decide +kernel
theorem dX5_init_16 : decode cX5_init 16 = .ok (.new 16, 3) := by decide +kernel
theorem dX5_init_19 : decode cX5_init 19 = .ok (.dup, 1) := by decide +kernel
theorem dX5_init_20 : decode cX5_init 20 = .ok (.invokespecial 18, 3) := by decide +kernel
theorem dX5_init_23 : decode cX5_init 23 = .ok (.putfield 19, 3) := by decide +kernel
theorem dX5_init_26 : decode cX5_init 26 = .ok (.aload_n 0, 1) := by decide +kernel
theorem dX5_init_27 : decode cX5_init 27 = .ok (.iconst 5, 1) := by decide +kernel
theorem dX5_init_28 : decode cX5_init 28 = .ok (.putfield 23, 3) := by decide +kernel
theorem dX5_init_31 : decode cX5_init 31 = .ok (.aload_n 0, 1) := by decide +kernel
theorem dX5_init_32 : decode cX5_init 32 = .ok (.bipush 20, 2) := by decide +kernel
theorem dX5_init_34 : decode cX5_init 34 = .ok (.putfield 27, 3) := by decide +kernel
theorem dX5_init_37 : decode cX5_init 37 = .ok (.aload_n 0, 1) := by decide +kernel
theorem dX5_init_38 : decode cX5_init 38 = .ok (.iconst 2, 1) := by decide +kernel
theorem dX5_init_39 : decode cX5_init 39 = .ok (.putfield 30, 3) := by decide +kernel
theorem dX5_init_42 : decode cX5_init 42 = .ok (.aload_n 0, 1) := by decide +kernel
theorem dX5_init_43 : decode cX5_init 43 = .ok (.bipush 20, 2) := by decide +kernel
theorem dX5_init_45 : decode cX5_init 45 = .ok (.anewarray 33, 3) := by decide +kernel
theorem dX5_init_48 : decode cX5_init 48 = .ok (.putfield 35, 3) := by decide +kernel
theorem dX5_init_51 : decode cX5_init 51 = .ok (.iconst 0, 1) := by decide +kernel
theorem dX5_init_52 : decode cX5_init 52 = .ok (.istore_n 1, 1) := by decide +kernel
theorem dX5_init_53 : decode cX5_init 53 = .ok (.iload_n 1, 1) := by decide +kernel
theorem dX5_init_54 : decode cX5_init 54 = .ok (.bipush 20, 2) := by decide +kernel
theorem dX5_init_56 : decode cX5_init 56 = .ok (.if_icmp .ge 22, 3) := by decide +kernel
theorem dX5_init_59 : decode cX5_init 59 = .ok (.aload_n 0, 1) := by decide +kernel
theorem dX5_init_60 : decode cX5_init 60 = .ok (.getfield 35, 3) := by decide +kernel
theorem dX5_init_63 : decode cX5_init 63 = .ok (.iload_n 1, 1) := by decide +kernel
theorem dX5_init_64 : decode cX5_init 64 = .ok (.new 33, 3) := by decide +kernel
theorem dX5_init_67 : decode cX5_init 67 = .ok (.dup, 1) := by decide +kernel
theorem dX5_init_68 : decode cX5_init 68 = .ok (.invokespecial 39, 3) := by decide +kernel
theorem dX5_init_71 : decode cX5_init 71 = .ok (.aastore, 1) := by decide +kernel
theorem dX5_init_72 : decode cX5_init 72 = .ok (.iinc 1 1, 3) := by decide +kernel
theorem dX5_init_75 : decode cX5_init 75 = .ok (.goto (-22), 3) := by decide +kernel
theorem dX5_init_78 : decode cX5_init 78 = .ok (.aload_n 0, 1) := by decide +kernel
theorem dX5_init_79 : decode cX5_init 79 = .ok (.iconst (-1), 1) := by decide +kernel
theorem dX5_init_80 : decode cX5_init 80 = .ok (.putfield 40, 3) := by decide +kernel
theorem dX5_init_83 : decode cX5_init 83 = .ok (.aload_n 0, 1) := by decide +kernel
theorem dX5_init_84 : decode cX5_init 84 = .ok (.iconst 4, 1) := by decide +kernel
theorem dX5_init_85 : decode cX5_init 85 = .ok (.newarray .long, 2) := by decide +kernel
theorem dX5_init_87 : decode cX5_init 87 = .ok (.putfield 43, 3) := by decide +kernel
theorem dX5_init_90 : decode cX5_init 90 = .ok (.return_, 1) := by decide +kernel
theorem dX5_addClass_0 : decode cX5_addClass 0 = .ok (.iload_n 1, 1) := by decide +kernel
theorem dX5_addClass_1 : decode cX5_addClass 1 = .ok (.iconst (-1), 1) := by decide +kernel
theorem dX5_addClass_2 : decode cX5_addClass 2 = .ok (.if_icmp .eq 24, 3) := by decide +kernel
theorem dX5_addClass_5 : decode cX5_addClass 5 = .ok (.aload_n 0, 1) := by decide +kernel
theorem dX5_addClass_6 : decode cX5_addClass 6 = .ok (.getfield 10, 3) := by decide +kernel
theorem dX5_addClass_9 : decode cX5_addClass 9 = .ok (.iload_n 1, 1) := by decide +kernel
theorem dX5_addClass_10 : decode cX5_addClass 10 = .ok (.invokevirtual 47, 3) := by decide +kernel
theorem dX5_addClass_13 : decode cX5_addClass 13 = .ok (.ifCond .ne 13, 3) := by decide +kernel
theorem dX5_addClass_16 : decode cX5_addClass 16 = .ok (.new 51, 3) := by decide +kernel
theorem dX5_addClass_19 : decode cX5_addClass 19 = .ok (.dup, 1) := by decide +kernel
theorem dX5_addClass_20 : decode cX5_addClass 20 = .ok (.ldc 53, 2) := by decide +kernel
theorem dX5_addClass_22 : decode cX5_addClass 22 = .ok (.invokespecial 55, 3) := by decide +kernel
theorem dX5_addClass_25 : decode cX5_addClass 25 = .ok (.athrow, 1) := by decide +kernel
theorem dX5_addClass_26 : decode cX5_addClass 26 = .ok (.aload_n 0, 1) := by decide +kernel
theorem dX5_addClass_27 : decode cX5_addClass 27 = .ok (.getfield 10, 3) := by decide +kernel
theorem dX5_addClass_30 : decode cX5_addClass 30 = .ok (.getfield 58, 3) := by decide +kernel
theorem dX5_addClass_33 : decode cX5_addClass 33 = .ok (.bipush 8, 2) := by decide +kernel
theorem dX5_addClass_35 : decode cX5_addClass 35 = .ok (.if_icmp .lt 13, 3) := by decide +kernel
theorem dX5_addClass_38 : decode cX5_addClass 38 = .ok (.new 61, 3) := by decide +kernel
theorem dX5_addClass_41 : decode cX5_addClass 41 = .ok (.dup, 1) := by decide +kernel
theorem dX5_addClass_42 : decode cX5_addClass 42 = .ok (.ldc 63, 2) := by decide +kernel
theorem dX5_addClass_44 : decode cX5_addClass 44 = .ok (.invokespecial 65, 3) := by decide +kernel
theorem dX5_addClass_47 : decode cX5_addClass 47 = .ok (.athrow, 1) := by decide +kernel
theorem dX5_addClass_48 : decode cX5_addClass 48 = .ok (.aload_n 0, 1) := by decide +kernel
theorem dX5_addClass_49 : decode cX5_addClass 49 = .ok (.getfield 10, 3) := by decide +kernel
theorem dX5_addClass_52 : decode cX5_addClass 52 = .ok (.iload_n 1, 1) := by decide +kernel
theorem dX5_addClass_53 : decode cX5_addClass 53 = .ok (.invokevirtual 66, 3) := by decide +kernel
theorem dX5_addClass_56 : decode cX5_addClass 56 = .ok (.ireturn, 1) := by decide +kernel
theorem dX5_addMethod_0 : decode cX5_addMethod 0 = .ok (.aload_n 0, 1) := by decide +kernel
theorem dX5_addMethod_1 : decode cX5_addMethod 1 = .ok (.getfield 19, 3) := by decide +kernel
theorem dX5_addMethod_4 : decode cX5_addMethod 4 = .ok (.invokevirtual 70, 3) := by decide +kernel
theorem dX5_addMethod_7 : decode cX5_addMethod 7 = .ok (.bipush 12, 2) := by decide +kernel
theorem dX5_addMethod_9 : decode cX5_addMethod 9 = .ok (.if_icmp .lt 13, 3) := by decide +kernel
theorem dX5_addMethod_12 : decode cX5_addMethod 12 = .ok (.new 61, 3) := by decide +kernel
theorem dX5_addMethod_15 : decode cX5_addMethod 15 = .ok (.dup, 1) := by decide +kernel
theorem dX5_addMethod_16 : decode cX5_addMethod 16 = .ok (.ldc 74, 2) := by decide +kernel
theorem dX5_addMethod_18 : decode cX5_addMethod 18 = .ok (.invokespecial 65, 3) := by decide +kernel
theorem dX5_addMethod_21 : decode cX5_addMethod 21 = .ok (.athrow, 1) := by decide +kernel
theorem dX5_addMethod_22 : decode cX5_addMethod 22 = .ok (.aload_n 0, 1) := by decide +kernel
theorem dX5_addMethod_23 : decode cX5_addMethod 23 = .ok (.getfield 19, 3) := by decide +kernel
theorem dX5_addMethod_26 : decode cX5_addMethod 26 = .ok (.new 76, 3) := by decide +kernel
theorem dX5_addMethod_29 : decode cX5_addMethod 29 = .ok (.dup, 1) := by decide +kernel
theorem dX5_addMethod_30 : decode cX5_addMethod 30 = .ok (.invokespecial 78, 3) := by decide +kernel
theorem dX5_addMethod_33 : decode cX5_addMethod 33 = .ok (.invokevirtual 79, 3) := by decide +kernel
theorem dX5_addMethod_36 : decode cX5_addMethod 36 = .ok (.pop, 1) := by decide +kernel
theorem dX5_addMethod_37 : decode cX5_addMethod 37 = .ok (.aload_n 0, 1) := by decide +kernel
theorem dX5_addMethod_38 : decode cX5_addMethod 38 = .ok (.getfield 19, 3) := by decide +kernel
theorem dX5_addMethod_41 : decode cX5_addMethod 41 = .ok (.invokevirtual 70, 3) := by decide +kernel
theorem dX5_addMethod_44 : decode cX5_addMethod 44 = .ok (.iconst 1, 1) := by decide +kernel
theorem dX5_addMethod_45 : decode cX5_addMethod 45 = .ok (.isub, 1) := by decide +kernel
theorem dX5_addMethod_46 : decode cX5_addMethod 46 = .ok (.ireturn, 1) := by decide +kernel
theorem dX5_append_0 : decode cX5_append 0 = .ok (.aload_n 0, 1) := by decide +kernel
theorem dX5_append_1 : decode cX5_append 1 = .ok (.iload_n 1, 1) := by decide +kernel
theorem dX5_append_2 : decode cX5_append 2 = .ok (.invokevirtual 83, 3) := by decide +kernel
theorem dX5_append_5 : decode cX5_append 5 = .ok (.astore 7, 2) := by decide +kernel
theorem dX5_append_7 : decode cX5_append 7 = .ok (.aload_n 0, 1) := by decide +kernel
theorem dX5_append_8 : decode cX5_append 8 = .ok (.iload_n 2, 1) := by decide +kernel
theorem dX5_append_9 : decode cX5_append 9 = .ok (.iload_n 3, 1) := by decide +kernel
theorem dX5_append_10 : decode cX5_append 10 = .ok (.iload 4, 2) := by decide +kernel
theorem dX5_append_12 : decode cX5_append 12 = .ok (.iload 5, 2) := by decide +kernel
theorem dX5_append_14 : decode cX5_append 14 = .ok (.iload 6, 2) := by decide +kernel
theorem dX5_append_16 : decode cX5_append 16 = .ok (.invokevirtual 87, 3) := by decide +kernel
theorem dX5_append_19 : decode cX5_append 19 = .ok (.ifCond .ne 13, 3) := by decide +kernel
theorem dX5_append_22 : decode cX5_append 22 = .ok (.new 91, 3) := by decide +kernel
theorem dX5_append_25 : decode cX5_append 25 = .ok (.dup, 1) := by decide +kernel
theorem dX5_append_26 : decode cX5_append 26 = .ok (.ldc 93, 2) := by decide +kernel
theorem dX5_append_28 : decode cX5_append 28 = .ok (.invokespecial 95, 3) := by decide +kernel
theorem dX5_append_31 : decode cX5_append 31 = .ok (.athrow, 1) := by decide +kernel
theorem dX5_append_32 : decode cX5_append 32 = .ok (.aload 7, 2) := by decide +kernel
theorem dX5_append_34 : decode cX5_append 34 = .ok (.invokevirtual 96, 3) := by decide +kernel
theorem dX5_append_37 : decode cX5_append 37 = .ok (.bipush 20, 2) := by decide +kernel
theorem dX5_append_39 : decode cX5_append 39 = .ok (.if_icmp .lt 13, 3) := by decide +kernel
theorem dX5_append_42 : decode cX5_append 42 = .ok (.new 61, 3) := by decide +kernel
theorem dX5_append_45 : decode cX5_append 45 = .ok (.dup, 1) := by decide +kernel
theorem dX5_append_46 : decode cX5_append 46 = .ok (.ldc 99, 2) := by decide +kernel
theorem dX5_append_48 : decode cX5_append 48 = .ok (.invokespecial 65, 3) := by decide +kernel
theorem dX5_append_51 : decode cX5_append 51 = .ok (.athrow, 1) := by decide +kernel
theorem dX5_append_52 : decode cX5_append 52 = .ok (.aload 7, 2) := by decide +kernel
theorem dX5_append_54 : decode cX5_append 54 = .ok (.getfield 101, 3) := by decide +kernel
theorem dX5_append_57 : decode cX5_append 57 = .ok (.new 104, 3) := by decide +kernel
theorem dX5_append_60 : decode cX5_append 60 = .ok (.dup, 1) := by decide +kernel
theorem dX5_append_61 : decode cX5_append 61 = .ok (.iload_n 2, 1) := by decide +kernel
theorem dX5_append_62 : decode cX5_append 62 = .ok (.iload_n 3, 1) := by decide +kernel
theorem dX5_append_63 : decode cX5_append 63 = .ok (.iload 4, 2) := by decide +kernel
theorem dX5_append_65 : decode cX5_append 65 = .ok (.iload 5, 2) := by decide +kernel
theorem dX5_append_67 : decode cX5_append 67 = .ok (.iload 6, 2) := by decide +kernel
theorem dX5_append_69 : decode cX5_append 69 = .ok (.invokespecial 106, 3) := by decide +kernel
theorem dX5_append_72 : decode cX5_append 72 = .ok (.invokevirtual 79, 3) := by decide +kernel
theorem dX5_append_75 : decode cX5_append 75 = .ok (.pop, 1) := by decide +kernel
theorem dX5_append_76 : decode cX5_append 76 = .ok (.aload 7, 2) := by decide +kernel
theorem dX5_append_78 : decode cX5_append 78 = .ok (.invokevirtual 109, 3) := by decide +kernel
theorem dX5_append_81 : decode cX5_append 81 = .ok (.aload 7, 2) := by decide +kernel
theorem dX5_append_83 : decode cX5_append 83 = .ok (.invokevirtual 96, 3) := by decide +kernel
theorem dX5_append_86 : decode cX5_append 86 = .ok (.iconst 1, 1) := by decide +kernel
theorem dX5_append_87 : decode cX5_append 87 = .ok (.isub, 1) := by decide +kernel
theorem dX5_append_88 : decode cX5_append 88 = .ok (.ireturn, 1) := by decide +kernel
theorem dX5_implement_0 : decode cX5_implement 0 = .ok (.aload_n 0, 1) := by decide +kernel
theorem dX5_implement_1 : decode cX5_implement 1 = .ok (.iload_n 1, 1) := by decide +kernel
theorem dX5_implement_2 : decode cX5_implement 2 = .ok (.iload_n 2, 1) := by decide +kernel
theorem dX5_implement_3 : decode cX5_implement 3 = .ok (.invokevirtual 112, 3) := by decide +kernel
theorem dX5_implement_6 : decode cX5_implement 6 = .ok (.iload_n 3, 1) := by decide +kernel
theorem dX5_implement_7 : decode cX5_implement 7 = .ok (.iconst (-1), 1) := by decide +kernel
theorem dX5_implement_8 : decode cX5_implement 8 = .ok (.if_icmp .eq 9, 3) := by decide +kernel
theorem dX5_implement_11 : decode cX5_implement 11 = .ok (.aload_n 0, 1) := by decide +kernel
theorem dX5_implement_12 : decode cX5_implement 12 = .ok (.iload_n 3, 1) := by decide +kernel
theorem dX5_implement_13 : decode cX5_implement 13 = .ok (.invokevirtual 83, 3) := by decide +kernel
theorem dX5_implement_16 : decode cX5_implement 16 = .ok (.pop, 1) := by decide +kernel
theorem dX5_implement_17 : decode cX5_implement 17 = .ok (.aload_n 0, 1) := by decide +kernel
theorem dX5_implement_18 : decode cX5_implement 18 = .ok (.getfield 10, 3) := by decide +kernel
theorem dX5_implement_21 : decode cX5_implement 21 = .ok (.iload_n 1, 1) := by decide +kernel
theorem dX5_implement_22 : decode cX5_implement 22 = .ok (.iload_n 2, 1) := by decide +kernel
theorem dX5_implement_23 : decode cX5_implement 23 = .ok (.iload_n 3, 1) := by decide +kernel
theorem dX5_implement_24 : decode cX5_implement 24 = .ok (.invokevirtual 116, 3) := by decide +kernel
theorem dX5_implement_27 : decode cX5_implement 27 = .ok (.iconst 0, 1) := by decide +kernel
theorem dX5_implement_28 : decode cX5_implement 28 = .ok (.istore 4, 2) := by decide +kernel
theorem dX5_implement_30 : decode cX5_implement 30 = .ok (.iconst 0, 1) := by decide +kernel
theorem dX5_implement_31 : decode cX5_implement 31 = .ok (.istore 5, 2) := by decide +kernel
theorem dX5_implement_33 : decode cX5_implement 33 = .ok (.iload 5, 2) := by decide +kernel
theorem dX5_implement_35 : decode cX5_implement 35 = .ok (.aload_n 0, 1) := by decide +kernel
theorem dX5_implement_36 : decode cX5_implement 36 = .ok (.getfield 19, 3) := by decide +kernel
theorem dX5_implement_39 : decode cX5_implement 39 = .ok (.invokevirtual 70, 3) := by decide +kernel
theorem dX5_implement_42 : decode cX5_implement 42 = .ok (.if_icmp .ge 53, 3) := by decide +kernel
theorem dX5_implement_45 : decode cX5_implement 45 = .ok (.aload_n 0, 1) := by decide +kernel
theorem dX5_implement_46 : decode cX5_implement 46 = .ok (.getfield 19, 3) := by decide +kernel
theorem dX5_implement_49 : decode cX5_implement 49 = .ok (.iload 5, 2) := by decide +kernel
theorem dX5_implement_51 : decode cX5_implement 51 = .ok (.invokevirtual 120, 3) := by decide +kernel
theorem dX5_implement_54 : decode cX5_implement 54 = .ok (.checkcast 76, 3) := by decide +kernel
theorem dX5_implement_57 : decode cX5_implement 57 = .ok (.astore 6, 2) := by decide +kernel
theorem dX5_implement_59 : decode cX5_implement 59 = .ok (.aload 6, 2) := by decide +kernel
theorem dX5_implement_61 : decode cX5_implement 61 = .ok (.getfield 124, 3) := by decide +kernel
theorem dX5_implement_64 : decode cX5_implement 64 = .ok (.iconst 2, 1) := by decide +kernel
theorem dX5_implement_65 : decode cX5_implement 65 = .ok (.if_icmp .ne 24, 3) := by decide +kernel
theorem dX5_implement_68 : decode cX5_implement 68 = .ok (.aload 6, 2) := by decide +kernel
theorem dX5_implement_70 : decode cX5_implement 70 = .ok (.iload_n 2, 1) := by decide +kernel
theorem dX5_implement_71 : decode cX5_implement 71 = .ok (.aload_n 0, 1) := by decide +kernel
theorem dX5_implement_72 : decode cX5_implement 72 = .ok (.getfield 10, 3) := by decide +kernel
theorem dX5_implement_75 : decode cX5_implement 75 = .ok (.invokevirtual 127, 3) := by decide +kernel
theorem dX5_implement_78 : decode cX5_implement 78 = .ok (.ifCond .eq 11, 3) := by decide +kernel
theorem dX5_implement_81 : decode cX5_implement 81 = .ok (.aload 6, 2) := by decide +kernel
theorem dX5_implement_83 : decode cX5_implement 83 = .ok (.invokevirtual 131, 3) := by decide +kernel
theorem dX5_implement_86 : decode cX5_implement 86 = .ok (.iinc 4 1, 3) := by decide +kernel
theorem dX5_implement_89 : decode cX5_implement 89 = .ok (.iinc 5 1, 3) := by decide +kernel
theorem dX5_implement_92 : decode cX5_implement 92 = .ok (.goto (-59), 3) := by decide +kernel
theorem dX5_implement_95 : decode cX5_implement 95 = .ok (.iload 4, 2) := by decide +kernel
theorem dX5_implement_97 : decode cX5_implement 97 = .ok (.ireturn, 1) := by decide +kernel
theorem dX5_understands_0 : decode cX5_understands 0 = .ok (.aload_n 0, 1) := by decide +kernel
theorem dX5_understands_1 : decode cX5_understands 1 = .ok (.iload_n 1, 1) := by decide +kernel
theorem dX5_understands_2 : decode cX5_understands 2 = .ok (.iload_n 2, 1) := by decide +kernel
theorem dX5_understands_3 : decode cX5_understands 3 = .ok (.invokevirtual 112, 3) := by decide +kernel
theorem dX5_understands_6 : decode cX5_understands 6 = .ok (.aload_n 0, 1) := by decide +kernel
theorem dX5_understands_7 : decode cX5_understands 7 = .ok (.getfield 10, 3) := by decide +kernel
theorem dX5_understands_10 : decode cX5_understands 10 = .ok (.iload_n 1, 1) := by decide +kernel
theorem dX5_understands_11 : decode cX5_understands 11 = .ok (.iload_n 2, 1) := by decide +kernel
theorem dX5_understands_12 : decode cX5_understands 12 = .ok (.invokevirtual 134, 3) := by decide +kernel
theorem dX5_understands_15 : decode cX5_understands 15 = .ok (.ireturn, 1) := by decide +kernel
theorem dX5_setPolicy_0 : decode cX5_setPolicy 0 = .ok (.iload_n 1, 1) := by decide +kernel
theorem dX5_setPolicy_1 : decode cX5_setPolicy 1 = .ok (.invokestatic 138, 3) := by decide +kernel
theorem dX5_setPolicy_4 : decode cX5_setPolicy 4 = .ok (.ifCond .eq 19, 3) := by decide +kernel
theorem dX5_setPolicy_7 : decode cX5_setPolicy 7 = .ok (.iload_n 2, 1) := by decide +kernel
theorem dX5_setPolicy_8 : decode cX5_setPolicy 8 = .ok (.invokestatic 138, 3) := by decide +kernel
theorem dX5_setPolicy_11 : decode cX5_setPolicy 11 = .ok (.ifCond .eq 12, 3) := by decide +kernel
theorem dX5_setPolicy_14 : decode cX5_setPolicy 14 = .ok (.iload_n 3, 1) := by decide +kernel
theorem dX5_setPolicy_15 : decode cX5_setPolicy 15 = .ok (.ifCond .lt 8, 3) := by decide +kernel
theorem dX5_setPolicy_18 : decode cX5_setPolicy 18 = .ok (.iload_n 3, 1) := by decide +kernel
theorem dX5_setPolicy_19 : decode cX5_setPolicy 19 = .ok (.iconst 5, 1) := by decide +kernel
theorem dX5_setPolicy_20 : decode cX5_setPolicy 20 = .ok (.if_icmp .le 13, 3) := by decide +kernel
theorem dX5_setPolicy_23 : decode cX5_setPolicy 23 = .ok (.new 91, 3) := by decide +kernel
theorem dX5_setPolicy_26 : decode cX5_setPolicy 26 = .ok (.dup, 1) := by decide +kernel
theorem dX5_setPolicy_27 : decode cX5_setPolicy 27 = .ok (.ldc 141, 2) := by decide +kernel
theorem dX5_setPolicy_29 : decode cX5_setPolicy 29 = .ok (.invokespecial 95, 3) := by decide +kernel
theorem dX5_setPolicy_32 : decode cX5_setPolicy 32 = .ok (.athrow, 1) := by decide +kernel
theorem dX5_setPolicy_33 : decode cX5_setPolicy 33 = .ok (.iload_n 1, 1) := by decide +kernel
theorem dX5_setPolicy_34 : decode cX5_setPolicy 34 = .ok (.aload_n 0, 1) := by decide +kernel
theorem dX5_setPolicy_35 : decode cX5_setPolicy 35 = .ok (.getfield 23, 3) := by decide +kernel
theorem dX5_setPolicy_38 : decode cX5_setPolicy 38 = .ok (.if_icmp .ne 19, 3) := by decide +kernel
theorem dX5_setPolicy_41 : decode cX5_setPolicy 41 = .ok (.iload_n 2, 1) := by decide +kernel
theorem dX5_setPolicy_42 : decode cX5_setPolicy 42 = .ok (.aload_n 0, 1) := by decide +kernel
theorem dX5_setPolicy_43 : decode cX5_setPolicy 43 = .ok (.getfield 27, 3) := by decide +kernel
theorem dX5_setPolicy_46 : decode cX5_setPolicy 46 = .ok (.if_icmp .ne 11, 3) := by decide +kernel
theorem dX5_setPolicy_49 : decode cX5_setPolicy 49 = .ok (.iload_n 3, 1) := by decide +kernel
theorem dX5_setPolicy_50 : decode cX5_setPolicy 50 = .ok (.aload_n 0, 1) := by decide +kernel
theorem dX5_setPolicy_51 : decode cX5_setPolicy 51 = .ok (.getfield 30, 3) := by decide +kernel
theorem dX5_setPolicy_54 : decode cX5_setPolicy 54 = .ok (.if_icmp .eq 7, 3) := by decide +kernel
theorem dX5_setPolicy_57 : decode cX5_setPolicy 57 = .ok (.iconst 1, 1) := by decide +kernel
theorem dX5_setPolicy_58 : decode cX5_setPolicy 58 = .ok (.goto 4, 3) := by decide +kernel
theorem dX5_setPolicy_61 : decode cX5_setPolicy 61 = .ok (.iconst 0, 1) := by decide +kernel
theorem dX5_setPolicy_62 : decode cX5_setPolicy 62 = .ok (.istore 4, 2) := by decide +kernel
theorem dX5_setPolicy_64 : decode cX5_setPolicy 64 = .ok (.aload_n 0, 1) := by decide +kernel
theorem dX5_setPolicy_65 : decode cX5_setPolicy 65 = .ok (.iload_n 1, 1) := by decide +kernel
theorem dX5_setPolicy_66 : decode cX5_setPolicy 66 = .ok (.putfield 23, 3) := by decide +kernel
theorem dX5_setPolicy_69 : decode cX5_setPolicy 69 = .ok (.aload_n 0, 1) := by decide +kernel
theorem dX5_setPolicy_70 : decode cX5_setPolicy 70 = .ok (.iload_n 2, 1) := by decide +kernel
theorem dX5_setPolicy_71 : decode cX5_setPolicy 71 = .ok (.putfield 27, 3) := by decide +kernel
theorem dX5_setPolicy_74 : decode cX5_setPolicy 74 = .ok (.aload_n 0, 1) := by decide +kernel
theorem dX5_setPolicy_75 : decode cX5_setPolicy 75 = .ok (.iload_n 3, 1) := by decide +kernel
theorem dX5_setPolicy_76 : decode cX5_setPolicy 76 = .ok (.putfield 30, 3) := by decide +kernel
theorem dX5_setPolicy_79 : decode cX5_setPolicy 79 = .ok (.iload 4, 2) := by decide +kernel
theorem dX5_setPolicy_81 : decode cX5_setPolicy 81 = .ok (.ireturn, 1) := by decide +kernel
theorem dX5_forget_0 : decode cX5_forget 0 = .ok (.iconst 0, 1) := by decide +kernel
theorem dX5_forget_1 : decode cX5_forget 1 = .ok (.istore_n 1, 1) := by decide +kernel
theorem dX5_forget_2 : decode cX5_forget 2 = .ok (.iconst 0, 1) := by decide +kernel
theorem dX5_forget_3 : decode cX5_forget 3 = .ok (.istore_n 2, 1) := by decide +kernel
theorem dX5_forget_4 : decode cX5_forget 4 = .ok (.iload_n 2, 1) := by decide +kernel
theorem dX5_forget_5 : decode cX5_forget 5 = .ok (.aload_n 0, 1) := by decide +kernel
theorem dX5_forget_6 : decode cX5_forget 6 = .ok (.getfield 19, 3) := by decide +kernel
theorem dX5_forget_9 : decode cX5_forget 9 = .ok (.invokevirtual 70, 3) := by decide +kernel
theorem dX5_forget_12 : decode cX5_forget 12 = .ok (.if_icmp .ge 35, 3) := by decide +kernel
theorem dX5_forget_15 : decode cX5_forget 15 = .ok (.aload_n 0, 1) := by decide +kernel
theorem dX5_forget_16 : decode cX5_forget 16 = .ok (.getfield 19, 3) := by decide +kernel
theorem dX5_forget_19 : decode cX5_forget 19 = .ok (.iload_n 2, 1) := by decide +kernel
theorem dX5_forget_20 : decode cX5_forget 20 = .ok (.invokevirtual 120, 3) := by decide +kernel
theorem dX5_forget_23 : decode cX5_forget 23 = .ok (.checkcast 76, 3) := by decide +kernel
theorem dX5_forget_26 : decode cX5_forget 26 = .ok (.astore_n 3, 1) := by decide +kernel
theorem dX5_forget_27 : decode cX5_forget 27 = .ok (.aload_n 3, 1) := by decide +kernel
theorem dX5_forget_28 : decode cX5_forget 28 = .ok (.getfield 124, 3) := by decide +kernel
theorem dX5_forget_31 : decode cX5_forget 31 = .ok (.ifCond .le 6, 3) := by decide +kernel
theorem dX5_forget_34 : decode cX5_forget 34 = .ok (.iinc 1 1, 3) := by decide +kernel
theorem dX5_forget_37 : decode cX5_forget 37 = .ok (.aload_n 3, 1) := by decide +kernel
theorem dX5_forget_38 : decode cX5_forget 38 = .ok (.invokevirtual 109, 3) := by decide +kernel
theorem dX5_forget_41 : decode cX5_forget 41 = .ok (.iinc 2 1, 3) := by decide +kernel
theorem dX5_forget_44 : decode cX5_forget 44 = .ok (.goto (-40), 3) := by decide +kernel
theorem dX5_forget_47 : decode cX5_forget 47 = .ok (.iload_n 1, 1) := by decide +kernel
theorem dX5_forget_48 : decode cX5_forget 48 = .ok (.ireturn, 1) := by decide +kernel
theorem dX5_run_0 : decode cX5_run 0 = .ok (.aload_n 0, 1) := by decide +kernel
theorem dX5_run_1 : decode cX5_run 1 = .ok (.iload_n 1, 1) := by decide +kernel
theorem dX5_run_2 : decode cX5_run 2 = .ok (.invokevirtual 83, 3) := by decide +kernel
theorem dX5_run_5 : decode cX5_run 5 = .ok (.pop, 1) := by decide +kernel
theorem dX5_run_6 : decode cX5_run 6 = .ok (.iload_n 3, 1) := by decide +kernel
theorem dX5_run_7 : decode cX5_run 7 = .ok (.ifCond .lt 10, 3) := by decide +kernel
theorem dX5_run_10 : decode cX5_run 10 = .ok (.iload_n 3, 1) := by decide +kernel
theorem dX5_run_11 : decode cX5_run 11 = .ok (.sipush 2000, 3) := by decide +kernel
theorem dX5_run_14 : decode cX5_run 14 = .ok (.if_icmp .le 13, 3) := by decide +kernel
theorem dX5_run_17 : decode cX5_run 17 = .ok (.new 91, 3) := by decide +kernel
theorem dX5_run_20 : decode cX5_run 20 = .ok (.dup, 1) := by decide +kernel
theorem dX5_run_21 : decode cX5_run 21 = .ok (.ldc 143, 2) := by decide +kernel
theorem dX5_run_23 : decode cX5_run 23 = .ok (.invokespecial 95, 3) := by decide +kernel
theorem dX5_run_26 : decode cX5_run 26 = .ok (.athrow, 1) := by decide +kernel
theorem dX5_run_27 : decode cX5_run 27 = .ok (.aload_n 0, 1) := by decide +kernel
theorem dX5_run_28 : decode cX5_run 28 = .ok (.invokevirtual 145, 3) := by decide +kernel
theorem dX5_run_31 : decode cX5_run 31 = .ok (.aload_n 0, 1) := by decide +kernel
theorem dX5_run_32 : decode cX5_run 32 = .ok (.iload_n 1, 1) := by decide +kernel
theorem dX5_run_33 : decode cX5_run 33 = .ok (.invokevirtual 148, 3) := by decide +kernel
theorem dX5_run_36 : decode cX5_run 36 = .ok (.iconst 0, 1) := by decide +kernel
theorem dX5_run_37 : decode cX5_run 37 = .ok (.iload_n 2, 1) := by decide +kernel
theorem dX5_run_38 : decode cX5_run 38 = .ok (.invokevirtual 152, 3) := by decide +kernel
theorem dX5_run_41 : decode cX5_run 41 = .ok (.iconst 0, 1) := by decide +kernel
theorem dX5_run_42 : decode cX5_run 42 = .ok (.istore 4, 2) := by decide +kernel
theorem dX5_run_44 : decode cX5_run 44 = .ok (.iload 4, 2) := by decide +kernel
theorem dX5_run_46 : decode cX5_run 46 = .ok (.iload_n 3, 1) := by decide +kernel
theorem dX5_run_47 : decode cX5_run 47 = .ok (.if_icmp .ge 55, 3) := by decide +kernel
theorem dX5_run_50 : decode cX5_run 50 = .ok (.aload_n 0, 1) := by decide +kernel
theorem dX5_run_51 : decode cX5_run 51 = .ok (.invokevirtual 155, 3) := by decide +kernel
theorem dX5_run_54 : decode cX5_run 54 = .ok (.aload_n 0, 1) := by decide +kernel
theorem dX5_run_55 : decode cX5_run 55 = .ok (.getfield 158, 3) := by decide +kernel
theorem dX5_run_58 : decode cX5_run 58 = .ok (.ifCond .ne 5, 3) := by decide +kernel
theorem dX5_run_61 : decode cX5_run 61 = .ok (.iconst 0, 1) := by decide +kernel
theorem dX5_run_62 : decode cX5_run 62 = .ok (.ireturn, 1) := by decide +kernel
theorem dX5_run_63 : decode cX5_run 63 = .ok (.aload_n 0, 1) := by decide +kernel
theorem dX5_run_64 : decode cX5_run 64 = .ok (.aload_n 0, 1) := by decide +kernel
theorem dX5_run_65 : decode cX5_run 65 = .ok (.getfield 35, 3) := by decide +kernel
theorem dX5_run_68 : decode cX5_run 68 = .ok (.aload_n 0, 1) := by decide +kernel
theorem dX5_run_69 : decode cX5_run 69 = .ok (.getfield 158, 3) := by decide +kernel
theorem dX5_run_72 : decode cX5_run 72 = .ok (.iconst 1, 1) := by decide +kernel
theorem dX5_run_73 : decode cX5_run 73 = .ok (.isub, 1) := by decide +kernel
theorem dX5_run_74 : decode cX5_run 74 = .ok (.aaload, 1) := by decide +kernel
theorem dX5_run_75 : decode cX5_run 75 = .ok (.invokevirtual 161, 3) := by decide +kernel
theorem dX5_run_78 : decode cX5_run 78 = .ok (.aload_n 0, 1) := by decide +kernel
theorem dX5_run_79 : decode cX5_run 79 = .ok (.getfield 165, 3) := by decide +kernel
theorem dX5_run_82 : decode cX5_run 82 = .ok (.ifCond .eq 5, 3) := by decide +kernel
theorem dX5_run_85 : decode cX5_run 85 = .ok (.iconst 2, 1) := by decide +kernel
theorem dX5_run_86 : decode cX5_run 86 = .ok (.ireturn, 1) := by decide +kernel
theorem dX5_run_87 : decode cX5_run 87 = .ok (.aload_n 0, 1) := by decide +kernel
theorem dX5_run_88 : decode cX5_run 88 = .ok (.getfield 158, 3) := by decide +kernel
theorem dX5_run_91 : decode cX5_run 91 = .ok (.ifCond .ne 5, 3) := by decide +kernel
theorem dX5_run_94 : decode cX5_run 94 = .ok (.iconst 0, 1) := by decide +kernel
theorem dX5_run_95 : decode cX5_run 95 = .ok (.ireturn, 1) := by decide +kernel
theorem dX5_run_96 : decode cX5_run 96 = .ok (.iinc 4 1, 3) := by decide +kernel
theorem dX5_run_99 : decode cX5_run 99 = .ok (.goto (-55), 3) := by decide +kernel
theorem dX5_run_102 : decode cX5_run 102 = .ok (.iconst 1, 1) := by decide +kernel
theorem dX5_run_103 : decode cX5_run 103 = .ok (.ireturn, 1) := by decide +kernel
theorem dX5_result_0 : decode cX5_result 0 = .ok (.aload_n 0, 1) := by decide +kernel
theorem dX5_result_1 : decode cX5_result 1 = .ok (.getfield 168, 3) := by decide +kernel
theorem dX5_result_4 : decode cX5_result 4 = .ok (.ireturn, 1) := by decide +kernel
theorem dX5_resultClass_0 : decode cX5_resultClass 0 = .ok (.aload_n 0, 1) := by decide +kernel
theorem dX5_resultClass_1 : decode cX5_resultClass 1 = .ok (.getfield 40, 3) := by decide +kernel
theorem dX5_resultClass_4 : decode cX5_resultClass 4 = .ok (.ireturn, 1) := by decide +kernel
theorem dX5_error_0 : decode cX5_error 0 = .ok (.aload_n 0, 1) := by decide +kernel
theorem dX5_error_1 : decode cX5_error 1 = .ok (.getfield 165, 3) := by decide +kernel
theorem dX5_error_4 : decode cX5_error 4 = .ok (.ireturn, 1) := by decide +kernel
theorem dX5_cost_0 : decode cX5_cost 0 = .ok (.aload_n 0, 1) := by decide +kernel
theorem dX5_cost_1 : decode cX5_cost 1 = .ok (.getfield 171, 3) := by decide +kernel
theorem dX5_cost_4 : decode cX5_cost 4 = .ok (.lreturn, 1) := by decide +kernel
theorem dX5_steps_0 : decode cX5_steps 0 = .ok (.aload_n 0, 1) := by decide +kernel
theorem dX5_steps_1 : decode cX5_steps 1 = .ok (.getfield 175, 3) := by decide +kernel
theorem dX5_steps_4 : decode cX5_steps 4 = .ok (.ireturn, 1) := by decide +kernel
theorem dX5_depth_0 : decode cX5_depth 0 = .ok (.aload_n 0, 1) := by decide +kernel
theorem dX5_depth_1 : decode cX5_depth 1 = .ok (.getfield 178, 3) := by decide +kernel
theorem dX5_depth_4 : decode cX5_depth 4 = .ok (.ireturn, 1) := by decide +kernel
theorem dX5_total_0 : decode cX5_total 0 = .ok (.iload_n 1, 1) := by decide +kernel
theorem dX5_total_1 : decode cX5_total 1 = .ok (.ifCond .lt 8, 3) := by decide +kernel
theorem dX5_total_4 : decode cX5_total 4 = .ok (.iload_n 1, 1) := by decide +kernel
theorem dX5_total_5 : decode cX5_total 5 = .ok (.iconst 4, 1) := by decide +kernel
theorem dX5_total_6 : decode cX5_total 6 = .ok (.if_icmp .lt 13, 3) := by decide +kernel
theorem dX5_total_9 : decode cX5_total 9 = .ok (.new 51, 3) := by decide +kernel
theorem dX5_total_12 : decode cX5_total 12 = .ok (.dup, 1) := by decide +kernel
theorem dX5_total_13 : decode cX5_total 13 = .ok (.ldc 181, 2) := by decide +kernel
theorem dX5_total_15 : decode cX5_total 15 = .ok (.invokespecial 55, 3) := by decide +kernel
theorem dX5_total_18 : decode cX5_total 18 = .ok (.athrow, 1) := by decide +kernel
theorem dX5_total_19 : decode cX5_total 19 = .ok (.aload_n 0, 1) := by decide +kernel
theorem dX5_total_20 : decode cX5_total 20 = .ok (.getfield 43, 3) := by decide +kernel
theorem dX5_total_23 : decode cX5_total 23 = .ok (.iload_n 1, 1) := by decide +kernel
theorem dX5_total_24 : decode cX5_total 24 = .ok (.laload, 1) := by decide +kernel
theorem dX5_total_25 : decode cX5_total 25 = .ok (.lreturn, 1) := by decide +kernel
theorem dX5_tier_0 : decode cX5_tier 0 = .ok (.aload_n 0, 1) := by decide +kernel
theorem dX5_tier_1 : decode cX5_tier 1 = .ok (.iload_n 1, 1) := by decide +kernel
theorem dX5_tier_2 : decode cX5_tier 2 = .ok (.invokevirtual 83, 3) := by decide +kernel
theorem dX5_tier_5 : decode cX5_tier 5 = .ok (.getfield 124, 3) := by decide +kernel
theorem dX5_tier_8 : decode cX5_tier 8 = .ok (.ireturn, 1) := by decide +kernel
theorem dX5_heat_0 : decode cX5_heat 0 = .ok (.aload_n 0, 1) := by decide +kernel
theorem dX5_heat_1 : decode cX5_heat 1 = .ok (.iload_n 1, 1) := by decide +kernel
theorem dX5_heat_2 : decode cX5_heat 2 = .ok (.invokevirtual 83, 3) := by decide +kernel
theorem dX5_heat_5 : decode cX5_heat 5 = .ok (.getfield 183, 3) := by decide +kernel
theorem dX5_heat_8 : decode cX5_heat 8 = .ok (.ireturn, 1) := by decide +kernel
theorem dX5_disappointments_0 : decode cX5_disappointments 0 = .ok (.aload_n 0, 1) := by decide +kernel
theorem dX5_disappointments_1 : decode cX5_disappointments 1 = .ok (.iload_n 1, 1) := by decide +kernel
theorem dX5_disappointments_2 : decode cX5_disappointments 2 = .ok (.invokevirtual 83, 3) := by decide +kernel
theorem dX5_disappointments_5 : decode cX5_disappointments 5 = .ok (.getfield 186, 3) := by decide +kernel
theorem dX5_disappointments_8 : decode cX5_disappointments 8 = .ok (.ireturn, 1) := by decide +kernel
theorem dX5_met_0 : decode cX5_met 0 = .ok (.aload_n 0, 1) := by decide +kernel
theorem dX5_met_1 : decode cX5_met 1 = .ok (.iload_n 1, 1) := by decide +kernel
theorem dX5_met_2 : decode cX5_met 2 = .ok (.iload_n 2, 1) := by decide +kernel
theorem dX5_met_3 : decode cX5_met 3 = .ok (.invokevirtual 189, 3) := by decide +kernel
theorem dX5_met_6 : decode cX5_met 6 = .ok (.invokevirtual 193, 3) := by decide +kernel
theorem dX5_met_9 : decode cX5_met 9 = .ok (.ireturn, 1) := by decide +kernel
theorem dX5_metClass_0 : decode cX5_metClass 0 = .ok (.aload_n 0, 1) := by decide +kernel
theorem dX5_metClass_1 : decode cX5_metClass 1 = .ok (.iload_n 1, 1) := by decide +kernel
theorem dX5_metClass_2 : decode cX5_metClass 2 = .ok (.iload_n 2, 1) := by decide +kernel
theorem dX5_metClass_3 : decode cX5_metClass 3 = .ok (.invokevirtual 189, 3) := by decide +kernel
theorem dX5_metClass_6 : decode cX5_metClass 6 = .ok (.astore 4, 2) := by decide +kernel
theorem dX5_metClass_8 : decode cX5_metClass 8 = .ok (.iload_n 3, 1) := by decide +kernel
theorem dX5_metClass_9 : decode cX5_metClass 9 = .ok (.ifCond .lt 12, 3) := by decide +kernel
theorem dX5_metClass_12 : decode cX5_metClass 12 = .ok (.iload_n 3, 1) := by decide +kernel
theorem dX5_metClass_13 : decode cX5_metClass 13 = .ok (.aload 4, 2) := by decide +kernel
theorem dX5_metClass_15 : decode cX5_metClass 15 = .ok (.getfield 198, 3) := by decide +kernel
theorem dX5_metClass_18 : decode cX5_metClass 18 = .ok (.if_icmp .lt 13, 3) := by decide +kernel
theorem dX5_metClass_21 : decode cX5_metClass 21 = .ok (.new 51, 3) := by decide +kernel
theorem dX5_metClass_24 : decode cX5_metClass 24 = .ok (.dup, 1) := by decide +kernel
theorem dX5_metClass_25 : decode cX5_metClass 25 = .ok (.ldc 199, 2) := by decide +kernel
theorem dX5_metClass_27 : decode cX5_metClass 27 = .ok (.invokespecial 55, 3) := by decide +kernel
theorem dX5_metClass_30 : decode cX5_metClass 30 = .ok (.athrow, 1) := by decide +kernel
theorem dX5_metClass_31 : decode cX5_metClass 31 = .ok (.aload 4, 2) := by decide +kernel
theorem dX5_metClass_33 : decode cX5_metClass 33 = .ok (.getfield 201, 3) := by decide +kernel
theorem dX5_metClass_36 : decode cX5_metClass 36 = .ok (.iload_n 3, 1) := by decide +kernel
theorem dX5_metClass_37 : decode cX5_metClass 37 = .ok (.iaload, 1) := by decide +kernel
theorem dX5_metClass_38 : decode cX5_metClass 38 = .ok (.ireturn, 1) := by decide +kernel
theorem dX5_digest_0 : decode cX5_digest 0 = .ok (.ldc2_w 205, 3) := by decide +kernel
theorem dX5_digest_3 : decode cX5_digest 3 = .ok (.lstore_n 1, 1) := by decide +kernel
theorem dX5_digest_4 : decode cX5_digest 4 = .ok (.lload_n 1, 1) := by decide +kernel
theorem dX5_digest_5 : decode cX5_digest 5 = .ok (.ldc2_w 207, 3) := by decide +kernel
theorem dX5_digest_8 : decode cX5_digest 8 = .ok (.lmul, 1) := by decide +kernel
theorem dX5_digest_9 : decode cX5_digest 9 = .ok (.aload_n 0, 1) := by decide +kernel
theorem dX5_digest_10 : decode cX5_digest 10 = .ok (.getfield 10, 3) := by decide +kernel
theorem dX5_digest_13 : decode cX5_digest 13 = .ok (.getfield 58, 3) := by decide +kernel
theorem dX5_digest_16 : decode cX5_digest 16 = .ok (.i2l, 1) := by decide +kernel
theorem dX5_digest_17 : decode cX5_digest 17 = .ok (.ladd, 1) := by decide +kernel
theorem dX5_digest_18 : decode cX5_digest 18 = .ok (.lstore_n 1, 1) := by decide +kernel
theorem dX5_digest_19 : decode cX5_digest 19 = .ok (.lload_n 1, 1) := by decide +kernel
theorem dX5_digest_20 : decode cX5_digest 20 = .ok (.ldc2_w 207, 3) := by decide +kernel
theorem dX5_digest_23 : decode cX5_digest 23 = .ok (.lmul, 1) := by decide +kernel
theorem dX5_digest_24 : decode cX5_digest 24 = .ok (.aload_n 0, 1) := by decide +kernel
theorem dX5_digest_25 : decode cX5_digest 25 = .ok (.getfield 19, 3) := by decide +kernel
theorem dX5_digest_28 : decode cX5_digest 28 = .ok (.invokevirtual 70, 3) := by decide +kernel
theorem dX5_digest_31 : decode cX5_digest 31 = .ok (.i2l, 1) := by decide +kernel
theorem dX5_digest_32 : decode cX5_digest 32 = .ok (.ladd, 1) := by decide +kernel
theorem dX5_digest_33 : decode cX5_digest 33 = .ok (.lstore_n 1, 1) := by decide +kernel
theorem dX5_digest_34 : decode cX5_digest 34 = .ok (.iconst 0, 1) := by decide +kernel
theorem dX5_digest_35 : decode cX5_digest 35 = .ok (.istore_n 3, 1) := by decide +kernel
theorem dX5_digest_36 : decode cX5_digest 36 = .ok (.iload_n 3, 1) := by decide +kernel
theorem dX5_digest_37 : decode cX5_digest 37 = .ok (.aload_n 0, 1) := by decide +kernel
theorem dX5_digest_38 : decode cX5_digest 38 = .ok (.getfield 19, 3) := by decide +kernel
theorem dX5_digest_41 : decode cX5_digest 41 = .ok (.invokevirtual 70, 3) := by decide +kernel
theorem dX5_digest_44 : decode cX5_digest 44 = .ok (.if_icmp .ge 25, 3) := by decide +kernel
theorem dX5_digest_47 : decode cX5_digest 47 = .ok (.aload_n 0, 1) := by decide +kernel
theorem dX5_digest_48 : decode cX5_digest 48 = .ok (.getfield 19, 3) := by decide +kernel
theorem dX5_digest_51 : decode cX5_digest 51 = .ok (.iload_n 3, 1) := by decide +kernel
theorem dX5_digest_52 : decode cX5_digest 52 = .ok (.invokevirtual 120, 3) := by decide +kernel
theorem dX5_digest_55 : decode cX5_digest 55 = .ok (.checkcast 76, 3) := by decide +kernel
theorem dX5_digest_58 : decode cX5_digest 58 = .ok (.lload_n 1, 1) := by decide +kernel
theorem dX5_digest_59 : decode cX5_digest 59 = .ok (.invokevirtual 209, 3) := by decide +kernel
theorem dX5_digest_62 : decode cX5_digest 62 = .ok (.lstore_n 1, 1) := by decide +kernel
theorem dX5_digest_63 : decode cX5_digest 63 = .ok (.iinc 3 1, 3) := by decide +kernel
theorem dX5_digest_66 : decode cX5_digest 66 = .ok (.goto (-30), 3) := by decide +kernel
theorem dX5_digest_69 : decode cX5_digest 69 = .ok (.lload_n 1, 1) := by decide +kernel
theorem dX5_digest_70 : decode cX5_digest 70 = .ok (.ldc2_w 207, 3) := by decide +kernel
theorem dX5_digest_73 : decode cX5_digest 73 = .ok (.lmul, 1) := by decide +kernel
theorem dX5_digest_74 : decode cX5_digest 74 = .ok (.aload_n 0, 1) := by decide +kernel
theorem dX5_digest_75 : decode cX5_digest 75 = .ok (.getfield 171, 3) := by decide +kernel
theorem dX5_digest_78 : decode cX5_digest 78 = .ok (.ladd, 1) := by decide +kernel
theorem dX5_digest_79 : decode cX5_digest 79 = .ok (.lstore_n 1, 1) := by decide +kernel
theorem dX5_digest_80 : decode cX5_digest 80 = .ok (.lload_n 1, 1) := by decide +kernel
theorem dX5_digest_81 : decode cX5_digest 81 = .ok (.ldc2_w 207, 3) := by decide +kernel
theorem dX5_digest_84 : decode cX5_digest 84 = .ok (.lmul, 1) := by decide +kernel
theorem dX5_digest_85 : decode cX5_digest 85 = .ok (.aload_n 0, 1) := by decide +kernel
theorem dX5_digest_86 : decode cX5_digest 86 = .ok (.getfield 175, 3) := by decide +kernel
theorem dX5_digest_89 : decode cX5_digest 89 = .ok (.i2l, 1) := by decide +kernel
theorem dX5_digest_90 : decode cX5_digest 90 = .ok (.ladd, 1) := by decide +kernel
theorem dX5_digest_91 : decode cX5_digest 91 = .ok (.lstore_n 1, 1) := by decide +kernel
theorem dX5_digest_92 : decode cX5_digest 92 = .ok (.lload_n 1, 1) := by decide +kernel
theorem dX5_digest_93 : decode cX5_digest 93 = .ok (.ldc2_w 207, 3) := by decide +kernel
theorem dX5_digest_96 : decode cX5_digest 96 = .ok (.lmul, 1) := by decide +kernel
theorem dX5_digest_97 : decode cX5_digest 97 = .ok (.aload_n 0, 1) := by decide +kernel
theorem dX5_digest_98 : decode cX5_digest 98 = .ok (.getfield 165, 3) := by decide +kernel
theorem dX5_digest_101 : decode cX5_digest 101 = .ok (.i2l, 1) := by decide +kernel
theorem dX5_digest_102 : decode cX5_digest 102 = .ok (.ladd, 1) := by decide +kernel
theorem dX5_digest_103 : decode cX5_digest 103 = .ok (.lreturn, 1) := by decide +kernel
theorem dX5_existingMethod_0 : decode cX5_existingMethod 0 = .ok (.iload_n 1, 1) := by decide +kernel
theorem dX5_existingMethod_1 : decode cX5_existingMethod 1 = .ok (.ifCond .lt 14, 3) := by decide +kernel
theorem dX5_existingMethod_4 : decode cX5_existingMethod 4 = .ok (.iload_n 1, 1) := by decide +kernel
theorem dX5_existingMethod_5 : decode cX5_existingMethod 5 = .ok (.aload_n 0, 1) := by decide +kernel
theorem dX5_existingMethod_6 : decode cX5_existingMethod 6 = .ok (.getfield 19, 3) := by decide +kernel
theorem dX5_existingMethod_9 : decode cX5_existingMethod 9 = .ok (.invokevirtual 70, 3) := by decide +kernel
theorem dX5_existingMethod_12 : decode cX5_existingMethod 12 = .ok (.if_icmp .lt 13, 3) := by decide +kernel
theorem dX5_existingMethod_15 : decode cX5_existingMethod 15 = .ok (.new 51, 3) := by decide +kernel
theorem dX5_existingMethod_18 : decode cX5_existingMethod 18 = .ok (.dup, 1) := by decide +kernel
theorem dX5_existingMethod_19 : decode cX5_existingMethod 19 = .ok (.ldc 213, 2) := by decide +kernel
theorem dX5_existingMethod_21 : decode cX5_existingMethod 21 = .ok (.invokespecial 55, 3) := by decide +kernel
theorem dX5_existingMethod_24 : decode cX5_existingMethod 24 = .ok (.athrow, 1) := by decide +kernel
theorem dX5_existingMethod_25 : decode cX5_existingMethod 25 = .ok (.aload_n 0, 1) := by decide +kernel
theorem dX5_existingMethod_26 : decode cX5_existingMethod 26 = .ok (.getfield 19, 3) := by decide +kernel
theorem dX5_existingMethod_29 : decode cX5_existingMethod 29 = .ok (.iload_n 1, 1) := by decide +kernel
theorem dX5_existingMethod_30 : decode cX5_existingMethod 30 = .ok (.invokevirtual 120, 3) := by decide +kernel
theorem dX5_existingMethod_33 : decode cX5_existingMethod 33 = .ok (.checkcast 76, 3) := by decide +kernel
theorem dX5_existingMethod_36 : decode cX5_existingMethod 36 = .ok (.areturn, 1) := by decide +kernel
theorem dX5_existingRecord_0 : decode cX5_existingRecord 0 = .ok (.aload_n 0, 1) := by decide +kernel
theorem dX5_existingRecord_1 : decode cX5_existingRecord 1 = .ok (.iload_n 1, 1) := by decide +kernel
theorem dX5_existingRecord_2 : decode cX5_existingRecord 2 = .ok (.invokevirtual 83, 3) := by decide +kernel
theorem dX5_existingRecord_5 : decode cX5_existingRecord 5 = .ok (.astore_n 3, 1) := by decide +kernel
theorem dX5_existingRecord_6 : decode cX5_existingRecord 6 = .ok (.aload_n 3, 1) := by decide +kernel
theorem dX5_existingRecord_7 : decode cX5_existingRecord 7 = .ok (.iload_n 2, 1) := by decide +kernel
theorem dX5_existingRecord_8 : decode cX5_existingRecord 8 = .ok (.invokevirtual 215, 3) := by decide +kernel
theorem dX5_existingRecord_11 : decode cX5_existingRecord 11 = .ok (.ifCond .eq 21, 3) := by decide +kernel
theorem dX5_existingRecord_14 : decode cX5_existingRecord 14 = .ok (.aload_n 3, 1) := by decide +kernel
theorem dX5_existingRecord_15 : decode cX5_existingRecord 15 = .ok (.getfield 101, 3) := by decide +kernel
theorem dX5_existingRecord_18 : decode cX5_existingRecord 18 = .ok (.iload_n 2, 1) := by decide +kernel
theorem dX5_existingRecord_19 : decode cX5_existingRecord 19 = .ok (.invokevirtual 120, 3) := by decide +kernel
theorem dX5_existingRecord_22 : decode cX5_existingRecord 22 = .ok (.checkcast 104, 3) := by decide +kernel
theorem dX5_existingRecord_25 : decode cX5_existingRecord 25 = .ok (.getfield 218, 3) := by decide +kernel
theorem dX5_existingRecord_28 : decode cX5_existingRecord 28 = .ok (.iconst 5, 1) := by decide +kernel
theorem dX5_existingRecord_29 : decode cX5_existingRecord 29 = .ok (.if_icmp .eq 13, 3) := by decide +kernel
theorem dX5_existingRecord_32 : decode cX5_existingRecord 32 = .ok (.new 51, 3) := by decide +kernel
theorem dX5_existingRecord_35 : decode cX5_existingRecord 35 = .ok (.dup, 1) := by decide +kernel
theorem dX5_existingRecord_36 : decode cX5_existingRecord 36 = .ok (.ldc 221, 2) := by decide +kernel
theorem dX5_existingRecord_38 : decode cX5_existingRecord 38 = .ok (.invokespecial 55, 3) := by decide +kernel
theorem dX5_existingRecord_41 : decode cX5_existingRecord 41 = .ok (.athrow, 1) := by decide +kernel
theorem dX5_existingRecord_42 : decode cX5_existingRecord 42 = .ok (.aload_n 3, 1) := by decide +kernel
theorem dX5_existingRecord_43 : decode cX5_existingRecord 43 = .ok (.getfield 101, 3) := by decide +kernel
theorem dX5_existingRecord_46 : decode cX5_existingRecord 46 = .ok (.iload_n 2, 1) := by decide +kernel
theorem dX5_existingRecord_47 : decode cX5_existingRecord 47 = .ok (.invokevirtual 120, 3) := by decide +kernel
theorem dX5_existingRecord_50 : decode cX5_existingRecord 50 = .ok (.checkcast 104, 3) := by decide +kernel
theorem dX5_existingRecord_53 : decode cX5_existingRecord 53 = .ok (.getfield 223, 3) := by decide +kernel
theorem dX5_existingRecord_56 : decode cX5_existingRecord 56 = .ok (.areturn, 1) := by decide +kernel
theorem dX5_checkClassAndSelector_0 : decode cX5_checkClassAndSelector 0 = .ok (.aload_n 0, 1) := by decide +kernel
theorem dX5_checkClassAndSelector_1 : decode cX5_checkClassAndSelector 1 = .ok (.getfield 10, 3) := by decide +kernel
theorem dX5_checkClassAndSelector_4 : decode cX5_checkClassAndSelector 4 = .ok (.iload_n 1, 1) := by decide +kernel
theorem dX5_checkClassAndSelector_5 : decode cX5_checkClassAndSelector 5 = .ok (.invokevirtual 47, 3) := by decide +kernel
theorem dX5_checkClassAndSelector_8 : decode cX5_checkClassAndSelector 8 = .ok (.ifCond .eq 10, 3) := by decide +kernel
theorem dX5_checkClassAndSelector_11 : decode cX5_checkClassAndSelector 11 = .ok (.iload_n 2, 1) := by decide +kernel
theorem dX5_checkClassAndSelector_12 : decode cX5_checkClassAndSelector 12 = .ok (.invokestatic 227, 3) := by decide +kernel
theorem dX5_checkClassAndSelector_15 : decode cX5_checkClassAndSelector 15 = .ok (.ifCond .ne 13, 3) := by decide +kernel
theorem dX5_checkClassAndSelector_18 : decode cX5_checkClassAndSelector 18 = .ok (.new 51, 3) := by decide +kernel
theorem dX5_checkClassAndSelector_21 : decode cX5_checkClassAndSelector 21 = .ok (.dup, 1) := by decide +kernel
theorem dX5_checkClassAndSelector_22 : decode cX5_checkClassAndSelector 22 = .ok (.ldc 230, 2) := by decide +kernel
theorem dX5_checkClassAndSelector_24 : decode cX5_checkClassAndSelector 24 = .ok (.invokespecial 55, 3) := by decide +kernel
theorem dX5_checkClassAndSelector_27 : decode cX5_checkClassAndSelector 27 = .ok (.athrow, 1) := by decide +kernel
theorem dX5_checkClassAndSelector_28 : decode cX5_checkClassAndSelector 28 = .ok (.return_, 1) := by decide +kernel
theorem dX5_fits_0 : decode cX5_fits 0 = .ok (.iload_n 1, 1) := by decide +kernel
theorem dX5_fits_1 : decode cX5_fits 1 = .ok (.tableswitch 177 0 8 #[51, 56, 56, 56, 84, 108, 144, 172, 51], 51) := by decide +kernel
theorem dX5_fits_52 : decode cX5_fits 52 = .ok (.iload_n 2, 1) := by decide +kernel
theorem dX5_fits_53 : decode cX5_fits 53 = .ok (.invokestatic 232, 3) := by decide +kernel
theorem dX5_fits_56 : decode cX5_fits 56 = .ok (.ireturn, 1) := by decide +kernel
theorem dX5_fits_57 : decode cX5_fits 57 = .ok (.iload_n 2, 1) := by decide +kernel
theorem dX5_fits_58 : decode cX5_fits 58 = .ok (.invokestatic 232, 3) := by decide +kernel
theorem dX5_fits_61 : decode cX5_fits 61 = .ok (.ifCond .eq 22, 3) := by decide +kernel
theorem dX5_fits_64 : decode cX5_fits 64 = .ok (.iload_n 3, 1) := by decide +kernel
theorem dX5_fits_65 : decode cX5_fits 65 = .ok (.invokestatic 232, 3) := by decide +kernel
theorem dX5_fits_68 : decode cX5_fits 68 = .ok (.ifCond .eq 15, 3) := by decide +kernel
theorem dX5_fits_71 : decode cX5_fits 71 = .ok (.iload 4, 2) := by decide +kernel
theorem dX5_fits_73 : decode cX5_fits 73 = .ok (.invokestatic 232, 3) := by decide +kernel
theorem dX5_fits_76 : decode cX5_fits 76 = .ok (.ifCond .eq 7, 3) := by decide +kernel
theorem dX5_fits_79 : decode cX5_fits 79 = .ok (.iconst 1, 1) := by decide +kernel
theorem dX5_fits_80 : decode cX5_fits 80 = .ok (.goto 4, 3) := by decide +kernel
theorem dX5_fits_83 : decode cX5_fits 83 = .ok (.iconst 0, 1) := by decide +kernel
theorem dX5_fits_84 : decode cX5_fits 84 = .ok (.ireturn, 1) := by decide +kernel
theorem dX5_fits_85 : decode cX5_fits 85 = .ok (.iload_n 2, 1) := by decide +kernel
theorem dX5_fits_86 : decode cX5_fits 86 = .ok (.invokestatic 232, 3) := by decide +kernel
theorem dX5_fits_89 : decode cX5_fits 89 = .ok (.ifCond .eq 18, 3) := by decide +kernel
theorem dX5_fits_92 : decode cX5_fits 92 = .ok (.aload_n 0, 1) := by decide +kernel
theorem dX5_fits_93 : decode cX5_fits 93 = .ok (.getfield 10, 3) := by decide +kernel
theorem dX5_fits_96 : decode cX5_fits 96 = .ok (.iload_n 3, 1) := by decide +kernel
theorem dX5_fits_97 : decode cX5_fits 97 = .ok (.invokevirtual 47, 3) := by decide +kernel
theorem dX5_fits_100 : decode cX5_fits 100 = .ok (.ifCond .eq 7, 3) := by decide +kernel
theorem dX5_fits_103 : decode cX5_fits 103 = .ok (.iconst 1, 1) := by decide +kernel
theorem dX5_fits_104 : decode cX5_fits 104 = .ok (.goto 4, 3) := by decide +kernel
theorem dX5_fits_107 : decode cX5_fits 107 = .ok (.iconst 0, 1) := by decide +kernel
theorem dX5_fits_108 : decode cX5_fits 108 = .ok (.ireturn, 1) := by decide +kernel
theorem dX5_fits_109 : decode cX5_fits 109 = .ok (.iload_n 2, 1) := by decide +kernel
theorem dX5_fits_110 : decode cX5_fits 110 = .ok (.invokestatic 232, 3) := by decide +kernel
theorem dX5_fits_113 : decode cX5_fits 113 = .ok (.ifCond .eq 30, 3) := by decide +kernel
theorem dX5_fits_116 : decode cX5_fits 116 = .ok (.iload_n 3, 1) := by decide +kernel
theorem dX5_fits_117 : decode cX5_fits 117 = .ok (.invokestatic 227, 3) := by decide +kernel
theorem dX5_fits_120 : decode cX5_fits 120 = .ok (.ifCond .eq 23, 3) := by decide +kernel
theorem dX5_fits_123 : decode cX5_fits 123 = .ok (.iload 4, 2) := by decide +kernel
theorem dX5_fits_125 : decode cX5_fits 125 = .ok (.invokestatic 232, 3) := by decide +kernel
theorem dX5_fits_128 : decode cX5_fits 128 = .ok (.ifCond .eq 15, 3) := by decide +kernel
theorem dX5_fits_131 : decode cX5_fits 131 = .ok (.iload 5, 2) := by decide +kernel
theorem dX5_fits_133 : decode cX5_fits 133 = .ok (.invokestatic 232, 3) := by decide +kernel
theorem dX5_fits_136 : decode cX5_fits 136 = .ok (.ifCond .eq 7, 3) := by decide +kernel
theorem dX5_fits_139 : decode cX5_fits 139 = .ok (.iconst 1, 1) := by decide +kernel
theorem dX5_fits_140 : decode cX5_fits 140 = .ok (.goto 4, 3) := by decide +kernel
theorem dX5_fits_143 : decode cX5_fits 143 = .ok (.iconst 0, 1) := by decide +kernel
theorem dX5_fits_144 : decode cX5_fits 144 = .ok (.ireturn, 1) := by decide +kernel
theorem dX5_fits_145 : decode cX5_fits 145 = .ok (.iload_n 2, 1) := by decide +kernel
theorem dX5_fits_146 : decode cX5_fits 146 = .ok (.invokestatic 232, 3) := by decide +kernel
theorem dX5_fits_149 : decode cX5_fits 149 = .ok (.ifCond .eq 22, 3) := by decide +kernel
theorem dX5_fits_152 : decode cX5_fits 152 = .ok (.iload_n 3, 1) := by decide +kernel
theorem dX5_fits_153 : decode cX5_fits 153 = .ok (.invokestatic 232, 3) := by decide +kernel
theorem dX5_fits_156 : decode cX5_fits 156 = .ok (.ifCond .eq 15, 3) := by decide +kernel
theorem dX5_fits_159 : decode cX5_fits 159 = .ok (.iload 4, 2) := by decide +kernel
theorem dX5_fits_161 : decode cX5_fits 161 = .ok (.invokestatic 235, 3) := by decide +kernel
theorem dX5_fits_164 : decode cX5_fits 164 = .ok (.ifCond .eq 7, 3) := by decide +kernel
theorem dX5_fits_167 : decode cX5_fits 167 = .ok (.iconst 1, 1) := by decide +kernel
theorem dX5_fits_168 : decode cX5_fits 168 = .ok (.goto 4, 3) := by decide +kernel
theorem dX5_fits_171 : decode cX5_fits 171 = .ok (.iconst 0, 1) := by decide +kernel
theorem dX5_fits_172 : decode cX5_fits 172 = .ok (.ireturn, 1) := by decide +kernel
theorem dX5_fits_173 : decode cX5_fits 173 = .ok (.iload_n 2, 1) := by decide +kernel
theorem dX5_fits_174 : decode cX5_fits 174 = .ok (.invokestatic 235, 3) := by decide +kernel
theorem dX5_fits_177 : decode cX5_fits 177 = .ok (.ireturn, 1) := by decide +kernel
theorem dX5_fits_178 : decode cX5_fits 178 = .ok (.iconst 0, 1) := by decide +kernel
theorem dX5_fits_179 : decode cX5_fits 179 = .ok (.ireturn, 1) := by decide +kernel
theorem dX5_isRegister_0 : decode cX5_isRegister 0 = .ok (.iload_n 0, 1) := by decide +kernel
theorem dX5_isRegister_1 : decode cX5_isRegister 1 = .ok (.ifCond .lt 12, 3) := by decide +kernel
theorem dX5_isRegister_4 : decode cX5_isRegister 4 = .ok (.iload_n 0, 1) := by decide +kernel
theorem dX5_isRegister_5 : decode cX5_isRegister 5 = .ok (.iconst 4, 1) := by decide +kernel
theorem dX5_isRegister_6 : decode cX5_isRegister 6 = .ok (.if_icmp .ge 7, 3) := by decide +kernel
theorem dX5_isRegister_9 : decode cX5_isRegister 9 = .ok (.iconst 1, 1) := by decide +kernel
theorem dX5_isRegister_10 : decode cX5_isRegister 10 = .ok (.goto 4, 3) := by decide +kernel
theorem dX5_isRegister_13 : decode cX5_isRegister 13 = .ok (.iconst 0, 1) := by decide +kernel
theorem dX5_isRegister_14 : decode cX5_isRegister 14 = .ok (.ireturn, 1) := by decide +kernel
theorem dX5_isSelector_0 : decode cX5_isSelector 0 = .ok (.iload_n 0, 1) := by decide +kernel
theorem dX5_isSelector_1 : decode cX5_isSelector 1 = .ok (.ifCond .lt 13, 3) := by decide +kernel
theorem dX5_isSelector_4 : decode cX5_isSelector 4 = .ok (.iload_n 0, 1) := by decide +kernel
theorem dX5_isSelector_5 : decode cX5_isSelector 5 = .ok (.bipush 6, 2) := by decide +kernel
theorem dX5_isSelector_7 : decode cX5_isSelector 7 = .ok (.if_icmp .ge 7, 3) := by decide +kernel
theorem dX5_isSelector_10 : decode cX5_isSelector 10 = .ok (.iconst 1, 1) := by decide +kernel
theorem dX5_isSelector_11 : decode cX5_isSelector 11 = .ok (.goto 4, 3) := by decide +kernel
theorem dX5_isSelector_14 : decode cX5_isSelector 14 = .ok (.iconst 0, 1) := by decide +kernel
theorem dX5_isSelector_15 : decode cX5_isSelector 15 = .ok (.ireturn, 1) := by decide +kernel
theorem dX5_isPlace_0 : decode cX5_isPlace 0 = .ok (.iload_n 0, 1) := by decide +kernel
theorem dX5_isPlace_1 : decode cX5_isPlace 1 = .ok (.ifCond .lt 13, 3) := by decide +kernel
theorem dX5_isPlace_4 : decode cX5_isPlace 4 = .ok (.iload_n 0, 1) := by decide +kernel
theorem dX5_isPlace_5 : decode cX5_isPlace 5 = .ok (.bipush 20, 2) := by decide +kernel
theorem dX5_isPlace_7 : decode cX5_isPlace 7 = .ok (.if_icmp .gt 7, 3) := by decide +kernel
theorem dX5_isPlace_10 : decode cX5_isPlace 10 = .ok (.iconst 1, 1) := by decide +kernel
theorem dX5_isPlace_11 : decode cX5_isPlace 11 = .ok (.goto 4, 3) := by decide +kernel
theorem dX5_isPlace_14 : decode cX5_isPlace 14 = .ok (.iconst 0, 1) := by decide +kernel
theorem dX5_isPlace_15 : decode cX5_isPlace 15 = .ok (.ireturn, 1) := by decide +kernel
theorem dX5_isThreshold_0 : decode cX5_isThreshold 0 = .ok (.iload_n 0, 1) := by decide +kernel
theorem dX5_isThreshold_1 : decode cX5_isThreshold 1 = .ok (.iconst 1, 1) := by decide +kernel
theorem dX5_isThreshold_2 : decode cX5_isThreshold 2 = .ok (.if_icmp .lt 14, 3) := by decide +kernel
theorem dX5_isThreshold_5 : decode cX5_isThreshold 5 = .ok (.iload_n 0, 1) := by decide +kernel
theorem dX5_isThreshold_6 : decode cX5_isThreshold 6 = .ok (.sipush 1000, 3) := by decide +kernel
theorem dX5_isThreshold_9 : decode cX5_isThreshold 9 = .ok (.if_icmp .gt 7, 3) := by decide +kernel
theorem dX5_isThreshold_12 : decode cX5_isThreshold 12 = .ok (.iconst 1, 1) := by decide +kernel
theorem dX5_isThreshold_13 : decode cX5_isThreshold 13 = .ok (.goto 4, 3) := by decide +kernel
theorem dX5_isThreshold_16 : decode cX5_isThreshold 16 = .ok (.iconst 0, 1) := by decide +kernel
theorem dX5_isThreshold_17 : decode cX5_isThreshold 17 = .ok (.ireturn, 1) := by decide +kernel
theorem dX5_clearOutcome_0 : decode cX5_clearOutcome 0 = .ok (.aload_n 0, 1) := by decide +kernel
theorem dX5_clearOutcome_1 : decode cX5_clearOutcome 1 = .ok (.iconst 0, 1) := by decide +kernel
theorem dX5_clearOutcome_2 : decode cX5_clearOutcome 2 = .ok (.putfield 158, 3) := by decide +kernel
theorem dX5_clearOutcome_5 : decode cX5_clearOutcome 5 = .ok (.aload_n 0, 1) := by decide +kernel
theorem dX5_clearOutcome_6 : decode cX5_clearOutcome 6 = .ok (.iconst 0, 1) := by decide +kernel
theorem dX5_clearOutcome_7 : decode cX5_clearOutcome 7 = .ok (.putfield 168, 3) := by decide +kernel
theorem dX5_clearOutcome_10 : decode cX5_clearOutcome 10 = .ok (.aload_n 0, 1) := by decide +kernel
theorem dX5_clearOutcome_11 : decode cX5_clearOutcome 11 = .ok (.iconst (-1), 1) := by decide +kernel
theorem dX5_clearOutcome_12 : decode cX5_clearOutcome 12 = .ok (.putfield 40, 3) := by decide +kernel
theorem dX5_clearOutcome_15 : decode cX5_clearOutcome 15 = .ok (.aload_n 0, 1) := by decide +kernel
theorem dX5_clearOutcome_16 : decode cX5_clearOutcome 16 = .ok (.iconst 0, 1) := by decide +kernel
theorem dX5_clearOutcome_17 : decode cX5_clearOutcome 17 = .ok (.putfield 165, 3) := by decide +kernel
theorem dX5_clearOutcome_20 : decode cX5_clearOutcome 20 = .ok (.aload_n 0, 1) := by decide +kernel
theorem dX5_clearOutcome_21 : decode cX5_clearOutcome 21 = .ok (.lconst 0, 1) := by decide +kernel
theorem dX5_clearOutcome_22 : decode cX5_clearOutcome 22 = .ok (.putfield 171, 3) := by decide +kernel
theorem dX5_clearOutcome_25 : decode cX5_clearOutcome 25 = .ok (.aload_n 0, 1) := by decide +kernel
theorem dX5_clearOutcome_26 : decode cX5_clearOutcome 26 = .ok (.iconst 0, 1) := by decide +kernel
theorem dX5_clearOutcome_27 : decode cX5_clearOutcome 27 = .ok (.putfield 175, 3) := by decide +kernel
theorem dX5_clearOutcome_30 : decode cX5_clearOutcome 30 = .ok (.aload_n 0, 1) := by decide +kernel
theorem dX5_clearOutcome_31 : decode cX5_clearOutcome 31 = .ok (.iconst 0, 1) := by decide +kernel
theorem dX5_clearOutcome_32 : decode cX5_clearOutcome 32 = .ok (.putfield 178, 3) := by decide +kernel
theorem dX5_clearOutcome_35 : decode cX5_clearOutcome 35 = .ok (.return_, 1) := by decide +kernel
theorem dX5_begin_0 : decode cX5_begin 0 = .ok (.aload_n 0, 1) := by decide +kernel
theorem dX5_begin_1 : decode cX5_begin 1 = .ok (.getfield 19, 3) := by decide +kernel
theorem dX5_begin_4 : decode cX5_begin 4 = .ok (.iload_n 1, 1) := by decide +kernel
theorem dX5_begin_5 : decode cX5_begin 5 = .ok (.invokevirtual 120, 3) := by decide +kernel
theorem dX5_begin_8 : decode cX5_begin 8 = .ok (.checkcast 76, 3) := by decide +kernel
theorem dX5_begin_11 : decode cX5_begin 11 = .ok (.astore_n 2, 1) := by decide +kernel
theorem dX5_begin_12 : decode cX5_begin 12 = .ok (.aload_n 0, 1) := by decide +kernel
theorem dX5_begin_13 : decode cX5_begin 13 = .ok (.aload_n 2, 1) := by decide +kernel
theorem dX5_begin_14 : decode cX5_begin 14 = .ok (.invokevirtual 238, 3) := by decide +kernel
theorem dX5_begin_17 : decode cX5_begin 17 = .ok (.aload_n 0, 1) := by decide +kernel
theorem dX5_begin_18 : decode cX5_begin 18 = .ok (.getfield 35, 3) := by decide +kernel
theorem dX5_begin_21 : decode cX5_begin 21 = .ok (.aload_n 0, 1) := by decide +kernel
theorem dX5_begin_22 : decode cX5_begin 22 = .ok (.getfield 158, 3) := by decide +kernel
theorem dX5_begin_25 : decode cX5_begin 25 = .ok (.aaload, 1) := by decide +kernel
theorem dX5_begin_26 : decode cX5_begin 26 = .ok (.astore_n 3, 1) := by decide +kernel
theorem dX5_begin_27 : decode cX5_begin 27 = .ok (.aload_n 3, 1) := by decide +kernel
theorem dX5_begin_28 : decode cX5_begin 28 = .ok (.iload_n 1, 1) := by decide +kernel
theorem dX5_begin_29 : decode cX5_begin 29 = .ok (.aload_n 2, 1) := by decide +kernel
theorem dX5_begin_30 : decode cX5_begin 30 = .ok (.getfield 124, 3) := by decide +kernel
theorem dX5_begin_33 : decode cX5_begin 33 = .ok (.invokevirtual 242, 3) := by decide +kernel
theorem dX5_begin_36 : decode cX5_begin 36 = .ok (.aload_n 0, 1) := by decide +kernel
theorem dX5_begin_37 : decode cX5_begin 37 = .ok (.dup, 1) := by decide +kernel
theorem dX5_begin_38 : decode cX5_begin 38 = .ok (.getfield 158, 3) := by decide +kernel
theorem dX5_begin_41 : decode cX5_begin 41 = .ok (.iconst 1, 1) := by decide +kernel
theorem dX5_begin_42 : decode cX5_begin 42 = .ok (.iadd, 1) := by decide +kernel
theorem dX5_begin_43 : decode cX5_begin 43 = .ok (.putfield 158, 3) := by decide +kernel
theorem dX5_begin_46 : decode cX5_begin 46 = .ok (.aload_n 0, 1) := by decide +kernel
theorem dX5_begin_47 : decode cX5_begin 47 = .ok (.aload_n 0, 1) := by decide +kernel
theorem dX5_begin_48 : decode cX5_begin 48 = .ok (.getfield 178, 3) := by decide +kernel
theorem dX5_begin_51 : decode cX5_begin 51 = .ok (.aload_n 0, 1) := by decide +kernel
theorem dX5_begin_52 : decode cX5_begin 52 = .ok (.getfield 158, 3) := by decide +kernel
theorem dX5_begin_55 : decode cX5_begin 55 = .ok (.invokestatic 245, 3) := by decide +kernel
theorem dX5_begin_58 : decode cX5_begin 58 = .ok (.putfield 178, 3) := by decide +kernel
theorem dX5_begin_61 : decode cX5_begin 61 = .ok (.aload_n 3, 1) := by decide +kernel
theorem dX5_begin_62 : decode cX5_begin 62 = .ok (.areturn, 1) := by decide +kernel
theorem dX5_warm_0 : decode cX5_warm 0 = .ok (.aload_n 1, 1) := by decide +kernel
theorem dX5_warm_1 : decode cX5_warm 1 = .ok (.dup, 1) := by decide +kernel
theorem dX5_warm_2 : decode cX5_warm 2 = .ok (.getfield 183, 3) := by decide +kernel
theorem dX5_warm_5 : decode cX5_warm 5 = .ok (.iconst 1, 1) := by decide +kernel
theorem dX5_warm_6 : decode cX5_warm 6 = .ok (.iadd, 1) := by decide +kernel
theorem dX5_warm_7 : decode cX5_warm 7 = .ok (.putfield 183, 3) := by decide +kernel
theorem dX5_warm_10 : decode cX5_warm 10 = .ok (.aload_n 1, 1) := by decide +kernel
theorem dX5_warm_11 : decode cX5_warm 11 = .ok (.getfield 124, 3) := by decide +kernel
theorem dX5_warm_14 : decode cX5_warm 14 = .ok (.ifCond .ne 46, 3) := by decide +kernel
theorem dX5_warm_17 : decode cX5_warm 17 = .ok (.aload_n 1, 1) := by decide +kernel
theorem dX5_warm_18 : decode cX5_warm 18 = .ok (.getfield 183, 3) := by decide +kernel
theorem dX5_warm_21 : decode cX5_warm 21 = .ok (.aload_n 0, 1) := by decide +kernel
theorem dX5_warm_22 : decode cX5_warm 22 = .ok (.getfield 23, 3) := by decide +kernel
theorem dX5_warm_25 : decode cX5_warm 25 = .ok (.if_icmp .lt 35, 3) := by decide +kernel
theorem dX5_warm_28 : decode cX5_warm 28 = .ok (.aload_n 1, 1) := by decide +kernel
theorem dX5_warm_29 : decode cX5_warm 29 = .ok (.iconst 1, 1) := by decide +kernel
theorem dX5_warm_30 : decode cX5_warm 30 = .ok (.putfield 124, 3) := by decide +kernel
theorem dX5_warm_33 : decode cX5_warm 33 = .ok (.aload_n 0, 1) := by decide +kernel
theorem dX5_warm_34 : decode cX5_warm 34 = .ok (.dup, 1) := by decide +kernel
theorem dX5_warm_35 : decode cX5_warm 35 = .ok (.getfield 171, 3) := by decide +kernel
theorem dX5_warm_38 : decode cX5_warm 38 = .ok (.bipush 20, 2) := by decide +kernel
theorem dX5_warm_40 : decode cX5_warm 40 = .ok (.aload_n 1, 1) := by decide +kernel
theorem dX5_warm_41 : decode cX5_warm 41 = .ok (.invokevirtual 96, 3) := by decide +kernel
theorem dX5_warm_44 : decode cX5_warm 44 = .ok (.imul, 1) := by decide +kernel
theorem dX5_warm_45 : decode cX5_warm 45 = .ok (.i2l, 1) := by decide +kernel
theorem dX5_warm_46 : decode cX5_warm 46 = .ok (.ladd, 1) := by decide +kernel
theorem dX5_warm_47 : decode cX5_warm 47 = .ok (.putfield 171, 3) := by decide +kernel
theorem dX5_warm_50 : decode cX5_warm 50 = .ok (.aload_n 0, 1) := by decide +kernel
theorem dX5_warm_51 : decode cX5_warm 51 = .ok (.getfield 43, 3) := by decide +kernel
theorem dX5_warm_54 : decode cX5_warm 54 = .ok (.iconst 0, 1) := by decide +kernel
theorem dX5_warm_55 : decode cX5_warm 55 = .ok (.dup2, 1) := by decide +kernel
theorem dX5_warm_56 : decode cX5_warm 56 = .ok (.laload, 1) := by decide +kernel
theorem dX5_warm_57 : decode cX5_warm 57 = .ok (.lconst 1, 1) := by decide +kernel
theorem dX5_warm_58 : decode cX5_warm 58 = .ok (.ladd, 1) := by decide +kernel
theorem dX5_warm_59 : decode cX5_warm 59 = .ok (.lastore, 1) := by decide +kernel
theorem dX5_warm_60 : decode cX5_warm 60 = .ok (.aload_n 1, 1) := by decide +kernel
theorem dX5_warm_61 : decode cX5_warm 61 = .ok (.getfield 124, 3) := by decide +kernel
theorem dX5_warm_64 : decode cX5_warm 64 = .ok (.iconst 1, 1) := by decide +kernel
theorem dX5_warm_65 : decode cX5_warm 65 = .ok (.if_icmp .ne 61, 3) := by decide +kernel
theorem dX5_warm_68 : decode cX5_warm 68 = .ok (.aload_n 1, 1) := by decide +kernel
theorem dX5_warm_69 : decode cX5_warm 69 = .ok (.getfield 183, 3) := by decide +kernel
theorem dX5_warm_72 : decode cX5_warm 72 = .ok (.aload_n 0, 1) := by decide +kernel
theorem dX5_warm_73 : decode cX5_warm 73 = .ok (.getfield 27, 3) := by decide +kernel
theorem dX5_warm_76 : decode cX5_warm 76 = .ok (.if_icmp .lt 50, 3) := by decide +kernel
theorem dX5_warm_79 : decode cX5_warm 79 = .ok (.aload_n 1, 1) := by decide +kernel
theorem dX5_warm_80 : decode cX5_warm 80 = .ok (.getfield 186, 3) := by decide +kernel
theorem dX5_warm_83 : decode cX5_warm 83 = .ok (.aload_n 0, 1) := by decide +kernel
theorem dX5_warm_84 : decode cX5_warm 84 = .ok (.getfield 30, 3) := by decide +kernel
theorem dX5_warm_87 : decode cX5_warm 87 = .ok (.if_icmp .ge 39, 3) := by decide +kernel
theorem dX5_warm_90 : decode cX5_warm 90 = .ok (.aload_n 1, 1) := by decide +kernel
theorem dX5_warm_91 : decode cX5_warm 91 = .ok (.iconst 2, 1) := by decide +kernel
theorem dX5_warm_92 : decode cX5_warm 92 = .ok (.putfield 124, 3) := by decide +kernel
theorem dX5_warm_95 : decode cX5_warm 95 = .ok (.aload_n 1, 1) := by decide +kernel
theorem dX5_warm_96 : decode cX5_warm 96 = .ok (.invokevirtual 250, 3) := by decide +kernel
theorem dX5_warm_99 : decode cX5_warm 99 = .ok (.aload_n 0, 1) := by decide +kernel
theorem dX5_warm_100 : decode cX5_warm 100 = .ok (.dup, 1) := by decide +kernel
theorem dX5_warm_101 : decode cX5_warm 101 = .ok (.getfield 171, 3) := by decide +kernel
theorem dX5_warm_104 : decode cX5_warm 104 = .ok (.bipush 50, 2) := by decide +kernel
theorem dX5_warm_106 : decode cX5_warm 106 = .ok (.aload_n 1, 1) := by decide +kernel
theorem dX5_warm_107 : decode cX5_warm 107 = .ok (.invokevirtual 96, 3) := by decide +kernel
theorem dX5_warm_110 : decode cX5_warm 110 = .ok (.imul, 1) := by decide +kernel
theorem dX5_warm_111 : decode cX5_warm 111 = .ok (.i2l, 1) := by decide +kernel
theorem dX5_warm_112 : decode cX5_warm 112 = .ok (.ladd, 1) := by decide +kernel
theorem dX5_warm_113 : decode cX5_warm 113 = .ok (.putfield 171, 3) := by decide +kernel
theorem dX5_warm_116 : decode cX5_warm 116 = .ok (.aload_n 0, 1) := by decide +kernel
theorem dX5_warm_117 : decode cX5_warm 117 = .ok (.getfield 43, 3) := by decide +kernel
theorem dX5_warm_120 : decode cX5_warm 120 = .ok (.iconst 1, 1) := by decide +kernel
theorem dX5_warm_121 : decode cX5_warm 121 = .ok (.dup2, 1) := by decide +kernel
theorem dX5_warm_122 : decode cX5_warm 122 = .ok (.laload, 1) := by decide +kernel
theorem dX5_warm_123 : decode cX5_warm 123 = .ok (.lconst 1, 1) := by decide +kernel
theorem dX5_warm_124 : decode cX5_warm 124 = .ok (.ladd, 1) := by decide +kernel
theorem dX5_warm_125 : decode cX5_warm 125 = .ok (.lastore, 1) := by decide +kernel
theorem dX5_warm_126 : decode cX5_warm 126 = .ok (.return_, 1) := by decide +kernel
theorem dX5_endFinishedMethods_0 : decode cX5_endFinishedMethods 0 = .ok (.aload_n 0, 1) := by decide +kernel
theorem dX5_endFinishedMethods_1 : decode cX5_endFinishedMethods 1 = .ok (.getfield 158, 3) := by decide +kernel
theorem dX5_endFinishedMethods_4 : decode cX5_endFinishedMethods 4 = .ok (.istore_n 1, 1) := by decide +kernel
theorem dX5_endFinishedMethods_5 : decode cX5_endFinishedMethods 5 = .ok (.iload_n 1, 1) := by decide +kernel
theorem dX5_endFinishedMethods_6 : decode cX5_endFinishedMethods 6 = .ok (.ifCond .le 49, 3) := by decide +kernel
theorem dX5_endFinishedMethods_9 : decode cX5_endFinishedMethods 9 = .ok (.aload_n 0, 1) := by decide +kernel
theorem dX5_endFinishedMethods_10 : decode cX5_endFinishedMethods 10 = .ok (.getfield 35, 3) := by decide +kernel
theorem dX5_endFinishedMethods_13 : decode cX5_endFinishedMethods 13 = .ok (.iload_n 1, 1) := by decide +kernel
theorem dX5_endFinishedMethods_14 : decode cX5_endFinishedMethods 14 = .ok (.iconst 1, 1) := by decide +kernel
theorem dX5_endFinishedMethods_15 : decode cX5_endFinishedMethods 15 = .ok (.isub, 1) := by decide +kernel
theorem dX5_endFinishedMethods_16 : decode cX5_endFinishedMethods 16 = .ok (.aaload, 1) := by decide +kernel
theorem dX5_endFinishedMethods_17 : decode cX5_endFinishedMethods 17 = .ok (.astore_n 2, 1) := by decide +kernel
theorem dX5_endFinishedMethods_18 : decode cX5_endFinishedMethods 18 = .ok (.aload_n 0, 1) := by decide +kernel
theorem dX5_endFinishedMethods_19 : decode cX5_endFinishedMethods 19 = .ok (.getfield 19, 3) := by decide +kernel
theorem dX5_endFinishedMethods_22 : decode cX5_endFinishedMethods 22 = .ok (.aload_n 2, 1) := by decide +kernel
theorem dX5_endFinishedMethods_23 : decode cX5_endFinishedMethods 23 = .ok (.getfield 253, 3) := by decide +kernel
theorem dX5_endFinishedMethods_26 : decode cX5_endFinishedMethods 26 = .ok (.invokevirtual 120, 3) := by decide +kernel
theorem dX5_endFinishedMethods_29 : decode cX5_endFinishedMethods 29 = .ok (.checkcast 76, 3) := by decide +kernel
theorem dX5_endFinishedMethods_32 : decode cX5_endFinishedMethods 32 = .ok (.aload_n 2, 1) := by decide +kernel
theorem dX5_endFinishedMethods_33 : decode cX5_endFinishedMethods 33 = .ok (.getfield 256, 3) := by decide +kernel
theorem dX5_endFinishedMethods_36 : decode cX5_endFinishedMethods 36 = .ok (.invokevirtual 215, 3) := by decide +kernel
theorem dX5_endFinishedMethods_39 : decode cX5_endFinishedMethods 39 = .ok (.ifCond .eq 4, 3) := by decide +kernel
theorem dX5_endFinishedMethods_42 : decode cX5_endFinishedMethods 42 = .ok (.return_, 1) := by decide +kernel
theorem dX5_endFinishedMethods_43 : decode cX5_endFinishedMethods 43 = .ok (.aload_n 0, 1) := by decide +kernel
theorem dX5_endFinishedMethods_44 : decode cX5_endFinishedMethods 44 = .ok (.iconst 0, 1) := by decide +kernel
theorem dX5_endFinishedMethods_45 : decode cX5_endFinishedMethods 45 = .ok (.iconst (-1), 1) := by decide +kernel
theorem dX5_endFinishedMethods_46 : decode cX5_endFinishedMethods 46 = .ok (.invokevirtual 259, 3) := by decide +kernel
theorem dX5_endFinishedMethods_49 : decode cX5_endFinishedMethods 49 = .ok (.iinc 1 (-1), 3) := by decide +kernel
theorem dX5_endFinishedMethods_52 : decode cX5_endFinishedMethods 52 = .ok (.goto (-47), 3) := by decide +kernel
theorem dX5_endFinishedMethods_55 : decode cX5_endFinishedMethods 55 = .ok (.return_, 1) := by decide +kernel
theorem dX5_end_0 : decode cX5_end 0 = .ok (.aload_n 0, 1) := by decide +kernel
theorem dX5_end_1 : decode cX5_end 1 = .ok (.dup, 1) := by decide +kernel
theorem dX5_end_2 : decode cX5_end 2 = .ok (.getfield 158, 3) := by decide +kernel
theorem dX5_end_5 : decode cX5_end 5 = .ok (.iconst 1, 1) := by decide +kernel
theorem dX5_end_6 : decode cX5_end 6 = .ok (.isub, 1) := by decide +kernel
theorem dX5_end_7 : decode cX5_end 7 = .ok (.putfield 158, 3) := by decide +kernel
theorem dX5_end_10 : decode cX5_end 10 = .ok (.aload_n 0, 1) := by decide +kernel
theorem dX5_end_11 : decode cX5_end 11 = .ok (.getfield 158, 3) := by decide +kernel
theorem dX5_end_14 : decode cX5_end 14 = .ok (.ifCond .le 28, 3) := by decide +kernel
theorem dX5_end_17 : decode cX5_end 17 = .ok (.aload_n 0, 1) := by decide +kernel
theorem dX5_end_18 : decode cX5_end 18 = .ok (.getfield 35, 3) := by decide +kernel
theorem dX5_end_21 : decode cX5_end 21 = .ok (.aload_n 0, 1) := by decide +kernel
theorem dX5_end_22 : decode cX5_end 22 = .ok (.getfield 158, 3) := by decide +kernel
theorem dX5_end_25 : decode cX5_end 25 = .ok (.iconst 1, 1) := by decide +kernel
theorem dX5_end_26 : decode cX5_end 26 = .ok (.isub, 1) := by decide +kernel
theorem dX5_end_27 : decode cX5_end 27 = .ok (.aaload, 1) := by decide +kernel
theorem dX5_end_28 : decode cX5_end 28 = .ok (.astore_n 3, 1) := by decide +kernel
theorem dX5_end_29 : decode cX5_end 29 = .ok (.aload_n 3, 1) := by decide +kernel
theorem dX5_end_30 : decode cX5_end 30 = .ok (.aload_n 3, 1) := by decide +kernel
theorem dX5_end_31 : decode cX5_end 31 = .ok (.getfield 262, 3) := by decide +kernel
theorem dX5_end_34 : decode cX5_end 34 = .ok (.iload_n 1, 1) := by decide +kernel
theorem dX5_end_35 : decode cX5_end 35 = .ok (.iload_n 2, 1) := by decide +kernel
theorem dX5_end_36 : decode cX5_end 36 = .ok (.invokevirtual 265, 3) := by decide +kernel
theorem dX5_end_39 : decode cX5_end 39 = .ok (.goto 13, 3) := by decide +kernel
theorem dX5_end_42 : decode cX5_end 42 = .ok (.aload_n 0, 1) := by decide +kernel
theorem dX5_end_43 : decode cX5_end 43 = .ok (.iload_n 1, 1) := by decide +kernel
theorem dX5_end_44 : decode cX5_end 44 = .ok (.putfield 168, 3) := by decide +kernel
theorem dX5_end_47 : decode cX5_end 47 = .ok (.aload_n 0, 1) := by decide +kernel
theorem dX5_end_48 : decode cX5_end 48 = .ok (.iload_n 2, 1) := by decide +kernel
theorem dX5_end_49 : decode cX5_end 49 = .ok (.putfield 40, 3) := by decide +kernel
theorem dX5_end_52 : decode cX5_end 52 = .ok (.return_, 1) := by decide +kernel
theorem dX5_doInstruction_0 : decode cX5_doInstruction 0 = .ok (.aload_n 0, 1) := by decide +kernel
theorem dX5_doInstruction_1 : decode cX5_doInstruction 1 = .ok (.getfield 19, 3) := by decide +kernel
theorem dX5_doInstruction_4 : decode cX5_doInstruction 4 = .ok (.aload_n 1, 1) := by decide +kernel
theorem dX5_doInstruction_5 : decode cX5_doInstruction 5 = .ok (.getfield 253, 3) := by decide +kernel
theorem dX5_doInstruction_8 : decode cX5_doInstruction 8 = .ok (.invokevirtual 120, 3) := by decide +kernel
theorem dX5_doInstruction_11 : decode cX5_doInstruction 11 = .ok (.checkcast 76, 3) := by decide +kernel
theorem dX5_doInstruction_14 : decode cX5_doInstruction 14 = .ok (.getfield 101, 3) := by decide +kernel
theorem dX5_doInstruction_17 : decode cX5_doInstruction 17 = .ok (.aload_n 1, 1) := by decide +kernel
theorem dX5_doInstruction_18 : decode cX5_doInstruction 18 = .ok (.getfield 256, 3) := by decide +kernel
theorem dX5_doInstruction_21 : decode cX5_doInstruction 21 = .ok (.invokevirtual 120, 3) := by decide +kernel
theorem dX5_doInstruction_24 : decode cX5_doInstruction 24 = .ok (.checkcast 104, 3) := by decide +kernel
theorem dX5_doInstruction_27 : decode cX5_doInstruction 27 = .ok (.astore_n 2, 1) := by decide +kernel
theorem dX5_doInstruction_28 : decode cX5_doInstruction 28 = .ok (.aload_n 0, 1) := by decide +kernel
theorem dX5_doInstruction_29 : decode cX5_doInstruction 29 = .ok (.dup, 1) := by decide +kernel
theorem dX5_doInstruction_30 : decode cX5_doInstruction 30 = .ok (.getfield 175, 3) := by decide +kernel
theorem dX5_doInstruction_33 : decode cX5_doInstruction 33 = .ok (.iconst 1, 1) := by decide +kernel
theorem dX5_doInstruction_34 : decode cX5_doInstruction 34 = .ok (.iadd, 1) := by decide +kernel
theorem dX5_doInstruction_35 : decode cX5_doInstruction 35 = .ok (.putfield 175, 3) := by decide +kernel
theorem dX5_doInstruction_38 : decode cX5_doInstruction 38 = .ok (.aload_n 0, 1) := by decide +kernel
theorem dX5_doInstruction_39 : decode cX5_doInstruction 39 = .ok (.dup, 1) := by decide +kernel
theorem dX5_doInstruction_40 : decode cX5_doInstruction 40 = .ok (.getfield 171, 3) := by decide +kernel
theorem dX5_doInstruction_43 : decode cX5_doInstruction 43 = .ok (.aload_n 1, 1) := by decide +kernel
theorem dX5_doInstruction_44 : decode cX5_doInstruction 44 = .ok (.getfield 268, 3) := by decide +kernel
theorem dX5_doInstruction_47 : decode cX5_doInstruction 47 = .ok (.invokestatic 269, 3) := by decide +kernel
theorem dX5_doInstruction_50 : decode cX5_doInstruction 50 = .ok (.i2l, 1) := by decide +kernel
theorem dX5_doInstruction_51 : decode cX5_doInstruction 51 = .ok (.ladd, 1) := by decide +kernel
theorem dX5_doInstruction_52 : decode cX5_doInstruction 52 = .ok (.putfield 171, 3) := by decide +kernel
theorem dX5_doInstruction_55 : decode cX5_doInstruction 55 = .ok (.aload_n 2, 1) := by decide +kernel
theorem dX5_doInstruction_56 : decode cX5_doInstruction 56 = .ok (.getfield 218, 3) := by decide +kernel
theorem dX5_doInstruction_59 : decode cX5_doInstruction 59 = .ok (.tableswitch 155 0 8 #[49, 155, 155, 155, 74, 100, 109, 118, 130], 49) := by decide +kernel
theorem dX5_doInstruction_108 : decode cX5_doInstruction 108 = .ok (.aload_n 1, 1) := by decide +kernel
theorem dX5_doInstruction_109 : decode cX5_doInstruction 109 = .ok (.aload_n 2, 1) := by decide +kernel
theorem dX5_doInstruction_110 : decode cX5_doInstruction 110 = .ok (.getfield 272, 3) := by decide +kernel
theorem dX5_doInstruction_113 : decode cX5_doInstruction 113 = .ok (.aload_n 2, 1) := by decide +kernel
theorem dX5_doInstruction_114 : decode cX5_doInstruction 114 = .ok (.getfield 275, 3) := by decide +kernel
theorem dX5_doInstruction_117 : decode cX5_doInstruction 117 = .ok (.invokevirtual 152, 3) := by decide +kernel
theorem dX5_doInstruction_120 : decode cX5_doInstruction 120 = .ok (.aload_n 1, 1) := by decide +kernel
theorem dX5_doInstruction_121 : decode cX5_doInstruction 121 = .ok (.dup, 1) := by decide +kernel
theorem dX5_doInstruction_122 : decode cX5_doInstruction 122 = .ok (.getfield 256, 3) := by decide +kernel
theorem dX5_doInstruction_125 : decode cX5_doInstruction 125 = .ok (.iconst 1, 1) := by decide +kernel
theorem dX5_doInstruction_126 : decode cX5_doInstruction 126 = .ok (.iadd, 1) := by decide +kernel
theorem dX5_doInstruction_127 : decode cX5_doInstruction 127 = .ok (.putfield 256, 3) := by decide +kernel
theorem dX5_doInstruction_130 : decode cX5_doInstruction 130 = .ok (.goto 90, 3) := by decide +kernel
theorem dX5_doInstruction_133 : decode cX5_doInstruction 133 = .ok (.aload_n 1, 1) := by decide +kernel
theorem dX5_doInstruction_134 : decode cX5_doInstruction 134 = .ok (.aload_n 2, 1) := by decide +kernel
theorem dX5_doInstruction_135 : decode cX5_doInstruction 135 = .ok (.getfield 272, 3) := by decide +kernel
theorem dX5_doInstruction_138 : decode cX5_doInstruction 138 = .ok (.iconst 0, 1) := by decide +kernel
theorem dX5_doInstruction_139 : decode cX5_doInstruction 139 = .ok (.aload_n 2, 1) := by decide +kernel
theorem dX5_doInstruction_140 : decode cX5_doInstruction 140 = .ok (.getfield 275, 3) := by decide +kernel
theorem dX5_doInstruction_143 : decode cX5_doInstruction 143 = .ok (.invokevirtual 265, 3) := by decide +kernel
theorem dX5_doInstruction_146 : decode cX5_doInstruction 146 = .ok (.aload_n 1, 1) := by decide +kernel
theorem dX5_doInstruction_147 : decode cX5_doInstruction 147 = .ok (.dup, 1) := by decide +kernel
theorem dX5_doInstruction_148 : decode cX5_doInstruction 148 = .ok (.getfield 256, 3) := by decide +kernel
theorem dX5_doInstruction_151 : decode cX5_doInstruction 151 = .ok (.iconst 1, 1) := by decide +kernel
theorem dX5_doInstruction_152 : decode cX5_doInstruction 152 = .ok (.iadd, 1) := by decide +kernel
theorem dX5_doInstruction_153 : decode cX5_doInstruction 153 = .ok (.putfield 256, 3) := by decide +kernel
theorem dX5_doInstruction_156 : decode cX5_doInstruction 156 = .ok (.goto 64, 3) := by decide +kernel
theorem dX5_doInstruction_159 : decode cX5_doInstruction 159 = .ok (.aload_n 0, 1) := by decide +kernel
theorem dX5_doInstruction_160 : decode cX5_doInstruction 160 = .ok (.aload_n 1, 1) := by decide +kernel
theorem dX5_doInstruction_161 : decode cX5_doInstruction 161 = .ok (.aload_n 2, 1) := by decide +kernel
theorem dX5_doInstruction_162 : decode cX5_doInstruction 162 = .ok (.invokevirtual 278, 3) := by decide +kernel
theorem dX5_doInstruction_165 : decode cX5_doInstruction 165 = .ok (.goto 55, 3) := by decide +kernel
theorem dX5_doInstruction_168 : decode cX5_doInstruction 168 = .ok (.aload_n 0, 1) := by decide +kernel
theorem dX5_doInstruction_169 : decode cX5_doInstruction 169 = .ok (.aload_n 1, 1) := by decide +kernel
theorem dX5_doInstruction_170 : decode cX5_doInstruction 170 = .ok (.aload_n 2, 1) := by decide +kernel
theorem dX5_doInstruction_171 : decode cX5_doInstruction 171 = .ok (.invokevirtual 282, 3) := by decide +kernel
theorem dX5_doInstruction_174 : decode cX5_doInstruction 174 = .ok (.goto 46, 3) := by decide +kernel
theorem dX5_doInstruction_177 : decode cX5_doInstruction 177 = .ok (.aload_n 0, 1) := by decide +kernel
theorem dX5_doInstruction_178 : decode cX5_doInstruction 178 = .ok (.aload_n 1, 1) := by decide +kernel
theorem dX5_doInstruction_179 : decode cX5_doInstruction 179 = .ok (.aload_n 2, 1) := by decide +kernel
theorem dX5_doInstruction_180 : decode cX5_doInstruction 180 = .ok (.getfield 272, 3) := by decide +kernel
theorem dX5_doInstruction_183 : decode cX5_doInstruction 183 = .ok (.invokevirtual 285, 3) := by decide +kernel
theorem dX5_doInstruction_186 : decode cX5_doInstruction 186 = .ok (.goto 34, 3) := by decide +kernel
theorem dX5_doInstruction_189 : decode cX5_doInstruction 189 = .ok (.aload_n 0, 1) := by decide +kernel
theorem dX5_doInstruction_190 : decode cX5_doInstruction 190 = .ok (.aload_n 1, 1) := by decide +kernel
theorem dX5_doInstruction_191 : decode cX5_doInstruction 191 = .ok (.getfield 289, 3) := by decide +kernel
theorem dX5_doInstruction_194 : decode cX5_doInstruction 194 = .ok (.aload_n 2, 1) := by decide +kernel
theorem dX5_doInstruction_195 : decode cX5_doInstruction 195 = .ok (.getfield 272, 3) := by decide +kernel
theorem dX5_doInstruction_198 : decode cX5_doInstruction 198 = .ok (.iaload, 1) := by decide +kernel
theorem dX5_doInstruction_199 : decode cX5_doInstruction 199 = .ok (.aload_n 1, 1) := by decide +kernel
theorem dX5_doInstruction_200 : decode cX5_doInstruction 200 = .ok (.getfield 292, 3) := by decide +kernel
theorem dX5_doInstruction_203 : decode cX5_doInstruction 203 = .ok (.aload_n 2, 1) := by decide +kernel
theorem dX5_doInstruction_204 : decode cX5_doInstruction 204 = .ok (.getfield 272, 3) := by decide +kernel
theorem dX5_doInstruction_207 : decode cX5_doInstruction 207 = .ok (.iaload, 1) := by decide +kernel
theorem dX5_doInstruction_208 : decode cX5_doInstruction 208 = .ok (.invokevirtual 259, 3) := by decide +kernel
theorem dX5_doInstruction_211 : decode cX5_doInstruction 211 = .ok (.goto 9, 3) := by decide +kernel
theorem dX5_doInstruction_214 : decode cX5_doInstruction 214 = .ok (.aload_n 0, 1) := by decide +kernel
theorem dX5_doInstruction_215 : decode cX5_doInstruction 215 = .ok (.aload_n 1, 1) := by decide +kernel
theorem dX5_doInstruction_216 : decode cX5_doInstruction 216 = .ok (.aload_n 2, 1) := by decide +kernel
theorem dX5_doInstruction_217 : decode cX5_doInstruction 217 = .ok (.invokevirtual 293, 3) := by decide +kernel
theorem dX5_doInstruction_220 : decode cX5_doInstruction 220 = .ok (.return_, 1) := by decide +kernel
theorem dX5_instructionCost_0 : decode cX5_instructionCost 0 = .ok (.iload_n 0, 1) := by decide +kernel
theorem dX5_instructionCost_1 : decode cX5_instructionCost 1 = .ok (.ifCond .ne 6, 3) := by decide +kernel
theorem dX5_instructionCost_4 : decode cX5_instructionCost 4 = .ok (.bipush 10, 2) := by decide +kernel
theorem dX5_instructionCost_6 : decode cX5_instructionCost 6 = .ok (.ireturn, 1) := by decide +kernel
theorem dX5_instructionCost_7 : decode cX5_instructionCost 7 = .ok (.iload_n 0, 1) := by decide +kernel
theorem dX5_instructionCost_8 : decode cX5_instructionCost 8 = .ok (.iconst 1, 1) := by decide +kernel
theorem dX5_instructionCost_9 : decode cX5_instructionCost 9 = .ok (.if_icmp .ne 7, 3) := by decide +kernel
theorem dX5_instructionCost_12 : decode cX5_instructionCost 12 = .ok (.iconst 4, 1) := by decide +kernel
theorem dX5_instructionCost_13 : decode cX5_instructionCost 13 = .ok (.goto 4, 3) := by decide +kernel
theorem dX5_instructionCost_16 : decode cX5_instructionCost 16 = .ok (.iconst 1, 1) := by decide +kernel
theorem dX5_instructionCost_17 : decode cX5_instructionCost 17 = .ok (.ireturn, 1) := by decide +kernel
theorem dX5_calculate_0 : decode cX5_calculate 0 = .ok (.aload_n 1, 1) := by decide +kernel
theorem dX5_calculate_1 : decode cX5_calculate 1 = .ok (.aload_n 2, 1) := by decide +kernel
theorem dX5_calculate_2 : decode cX5_calculate 2 = .ok (.getfield 275, 3) := by decide +kernel
theorem dX5_calculate_5 : decode cX5_calculate 5 = .ok (.invokevirtual 296, 3) := by decide +kernel
theorem dX5_calculate_8 : decode cX5_calculate 8 = .ok (.ifCond .eq 14, 3) := by decide +kernel
theorem dX5_calculate_11 : decode cX5_calculate 11 = .ok (.aload_n 1, 1) := by decide +kernel
theorem dX5_calculate_12 : decode cX5_calculate 12 = .ok (.aload_n 2, 1) := by decide +kernel
theorem dX5_calculate_13 : decode cX5_calculate 13 = .ok (.getfield 299, 3) := by decide +kernel
theorem dX5_calculate_16 : decode cX5_calculate 16 = .ok (.invokevirtual 296, 3) := by decide +kernel
theorem dX5_calculate_19 : decode cX5_calculate 19 = .ok (.ifCond .ne 9, 3) := by decide +kernel
theorem dX5_calculate_22 : decode cX5_calculate 22 = .ok (.aload_n 0, 1) := by decide +kernel
theorem dX5_calculate_23 : decode cX5_calculate 23 = .ok (.iconst 1, 1) := by decide +kernel
theorem dX5_calculate_24 : decode cX5_calculate 24 = .ok (.putfield 165, 3) := by decide +kernel
theorem dX5_calculate_27 : decode cX5_calculate 27 = .ok (.return_, 1) := by decide +kernel
theorem dX5_calculate_28 : decode cX5_calculate 28 = .ok (.aload_n 1, 1) := by decide +kernel
theorem dX5_calculate_29 : decode cX5_calculate 29 = .ok (.getfield 289, 3) := by decide +kernel
theorem dX5_calculate_32 : decode cX5_calculate 32 = .ok (.aload_n 2, 1) := by decide +kernel
theorem dX5_calculate_33 : decode cX5_calculate 33 = .ok (.getfield 275, 3) := by decide +kernel
theorem dX5_calculate_36 : decode cX5_calculate 36 = .ok (.iaload, 1) := by decide +kernel
theorem dX5_calculate_37 : decode cX5_calculate 37 = .ok (.istore_n 3, 1) := by decide +kernel
theorem dX5_calculate_38 : decode cX5_calculate 38 = .ok (.aload_n 1, 1) := by decide +kernel
theorem dX5_calculate_39 : decode cX5_calculate 39 = .ok (.getfield 289, 3) := by decide +kernel
theorem dX5_calculate_42 : decode cX5_calculate 42 = .ok (.aload_n 2, 1) := by decide +kernel
theorem dX5_calculate_43 : decode cX5_calculate 43 = .ok (.getfield 299, 3) := by decide +kernel
theorem dX5_calculate_46 : decode cX5_calculate 46 = .ok (.iaload, 1) := by decide +kernel
theorem dX5_calculate_47 : decode cX5_calculate 47 = .ok (.istore 4, 2) := by decide +kernel
theorem dX5_calculate_49 : decode cX5_calculate 49 = .ok (.aload_n 2, 1) := by decide +kernel
theorem dX5_calculate_50 : decode cX5_calculate 50 = .ok (.getfield 218, 3) := by decide +kernel
theorem dX5_calculate_53 : decode cX5_calculate 53 = .ok (.iconst 1, 1) := by decide +kernel
theorem dX5_calculate_54 : decode cX5_calculate 54 = .ok (.if_icmp .ne 18, 3) := by decide +kernel
theorem dX5_calculate_57 : decode cX5_calculate 57 = .ok (.aload_n 1, 1) := by decide +kernel
theorem dX5_calculate_58 : decode cX5_calculate 58 = .ok (.aload_n 2, 1) := by decide +kernel
theorem dX5_calculate_59 : decode cX5_calculate 59 = .ok (.getfield 272, 3) := by decide +kernel
theorem dX5_calculate_62 : decode cX5_calculate 62 = .ok (.iload_n 3, 1) := by decide +kernel
theorem dX5_calculate_63 : decode cX5_calculate 63 = .ok (.iload 4, 2) := by decide +kernel
theorem dX5_calculate_65 : decode cX5_calculate 65 = .ok (.iadd, 1) := by decide +kernel
theorem dX5_calculate_66 : decode cX5_calculate 66 = .ok (.invokevirtual 152, 3) := by decide +kernel
theorem dX5_calculate_69 : decode cX5_calculate 69 = .ok (.goto 38, 3) := by decide +kernel
theorem dX5_calculate_72 : decode cX5_calculate 72 = .ok (.aload_n 2, 1) := by decide +kernel
theorem dX5_calculate_73 : decode cX5_calculate 73 = .ok (.getfield 218, 3) := by decide +kernel
theorem dX5_calculate_76 : decode cX5_calculate 76 = .ok (.iconst 2, 1) := by decide +kernel
theorem dX5_calculate_77 : decode cX5_calculate 77 = .ok (.if_icmp .ne 18, 3) := by decide +kernel
theorem dX5_calculate_80 : decode cX5_calculate 80 = .ok (.aload_n 1, 1) := by decide +kernel
theorem dX5_calculate_81 : decode cX5_calculate 81 = .ok (.aload_n 2, 1) := by decide +kernel
theorem dX5_calculate_82 : decode cX5_calculate 82 = .ok (.getfield 272, 3) := by decide +kernel
theorem dX5_calculate_85 : decode cX5_calculate 85 = .ok (.iload_n 3, 1) := by decide +kernel
theorem dX5_calculate_86 : decode cX5_calculate 86 = .ok (.iload 4, 2) := by decide +kernel
theorem dX5_calculate_88 : decode cX5_calculate 88 = .ok (.isub, 1) := by decide +kernel
theorem dX5_calculate_89 : decode cX5_calculate 89 = .ok (.invokevirtual 152, 3) := by decide +kernel
theorem dX5_calculate_92 : decode cX5_calculate 92 = .ok (.goto 15, 3) := by decide +kernel
theorem dX5_calculate_95 : decode cX5_calculate 95 = .ok (.aload_n 1, 1) := by decide +kernel
theorem dX5_calculate_96 : decode cX5_calculate 96 = .ok (.aload_n 2, 1) := by decide +kernel
theorem dX5_calculate_97 : decode cX5_calculate 97 = .ok (.getfield 272, 3) := by decide +kernel
theorem dX5_calculate_100 : decode cX5_calculate 100 = .ok (.iload_n 3, 1) := by decide +kernel
theorem dX5_calculate_101 : decode cX5_calculate 101 = .ok (.iload 4, 2) := by decide +kernel
theorem dX5_calculate_103 : decode cX5_calculate 103 = .ok (.imul, 1) := by decide +kernel
theorem dX5_calculate_104 : decode cX5_calculate 104 = .ok (.invokevirtual 152, 3) := by decide +kernel
theorem dX5_calculate_107 : decode cX5_calculate 107 = .ok (.aload_n 1, 1) := by decide +kernel
theorem dX5_calculate_108 : decode cX5_calculate 108 = .ok (.dup, 1) := by decide +kernel
theorem dX5_calculate_109 : decode cX5_calculate 109 = .ok (.getfield 256, 3) := by decide +kernel
theorem dX5_calculate_112 : decode cX5_calculate 112 = .ok (.iconst 1, 1) := by decide +kernel
theorem dX5_calculate_113 : decode cX5_calculate 113 = .ok (.iadd, 1) := by decide +kernel
theorem dX5_calculate_114 : decode cX5_calculate 114 = .ok (.putfield 256, 3) := by decide +kernel
theorem dX5_calculate_117 : decode cX5_calculate 117 = .ok (.return_, 1) := by decide +kernel
theorem dX5_jumpIfLess_0 : decode cX5_jumpIfLess 0 = .ok (.aload_n 1, 1) := by decide +kernel
theorem dX5_jumpIfLess_1 : decode cX5_jumpIfLess 1 = .ok (.aload_n 2, 1) := by decide +kernel
theorem dX5_jumpIfLess_2 : decode cX5_jumpIfLess 2 = .ok (.getfield 272, 3) := by decide +kernel
theorem dX5_jumpIfLess_5 : decode cX5_jumpIfLess 5 = .ok (.invokevirtual 296, 3) := by decide +kernel
theorem dX5_jumpIfLess_8 : decode cX5_jumpIfLess 8 = .ok (.ifCond .eq 14, 3) := by decide +kernel
theorem dX5_jumpIfLess_11 : decode cX5_jumpIfLess 11 = .ok (.aload_n 1, 1) := by decide +kernel
theorem dX5_jumpIfLess_12 : decode cX5_jumpIfLess 12 = .ok (.aload_n 2, 1) := by decide +kernel
theorem dX5_jumpIfLess_13 : decode cX5_jumpIfLess 13 = .ok (.getfield 275, 3) := by decide +kernel
theorem dX5_jumpIfLess_16 : decode cX5_jumpIfLess 16 = .ok (.invokevirtual 296, 3) := by decide +kernel
theorem dX5_jumpIfLess_19 : decode cX5_jumpIfLess 19 = .ok (.ifCond .ne 9, 3) := by decide +kernel
theorem dX5_jumpIfLess_22 : decode cX5_jumpIfLess 22 = .ok (.aload_n 0, 1) := by decide +kernel
theorem dX5_jumpIfLess_23 : decode cX5_jumpIfLess 23 = .ok (.iconst 1, 1) := by decide +kernel
theorem dX5_jumpIfLess_24 : decode cX5_jumpIfLess 24 = .ok (.putfield 165, 3) := by decide +kernel
theorem dX5_jumpIfLess_27 : decode cX5_jumpIfLess 27 = .ok (.return_, 1) := by decide +kernel
theorem dX5_jumpIfLess_28 : decode cX5_jumpIfLess 28 = .ok (.aload_n 1, 1) := by decide +kernel
theorem dX5_jumpIfLess_29 : decode cX5_jumpIfLess 29 = .ok (.getfield 289, 3) := by decide +kernel
theorem dX5_jumpIfLess_32 : decode cX5_jumpIfLess 32 = .ok (.aload_n 2, 1) := by decide +kernel
theorem dX5_jumpIfLess_33 : decode cX5_jumpIfLess 33 = .ok (.getfield 272, 3) := by decide +kernel
theorem dX5_jumpIfLess_36 : decode cX5_jumpIfLess 36 = .ok (.iaload, 1) := by decide +kernel
theorem dX5_jumpIfLess_37 : decode cX5_jumpIfLess 37 = .ok (.aload_n 1, 1) := by decide +kernel
theorem dX5_jumpIfLess_38 : decode cX5_jumpIfLess 38 = .ok (.getfield 289, 3) := by decide +kernel
theorem dX5_jumpIfLess_41 : decode cX5_jumpIfLess 41 = .ok (.aload_n 2, 1) := by decide +kernel
theorem dX5_jumpIfLess_42 : decode cX5_jumpIfLess 42 = .ok (.getfield 275, 3) := by decide +kernel
theorem dX5_jumpIfLess_45 : decode cX5_jumpIfLess 45 = .ok (.iaload, 1) := by decide +kernel
theorem dX5_jumpIfLess_46 : decode cX5_jumpIfLess 46 = .ok (.if_icmp .ge 15, 3) := by decide +kernel
theorem dX5_jumpIfLess_49 : decode cX5_jumpIfLess 49 = .ok (.aload_n 0, 1) := by decide +kernel
theorem dX5_jumpIfLess_50 : decode cX5_jumpIfLess 50 = .ok (.aload_n 1, 1) := by decide +kernel
theorem dX5_jumpIfLess_51 : decode cX5_jumpIfLess 51 = .ok (.aload_n 2, 1) := by decide +kernel
theorem dX5_jumpIfLess_52 : decode cX5_jumpIfLess 52 = .ok (.getfield 299, 3) := by decide +kernel
theorem dX5_jumpIfLess_55 : decode cX5_jumpIfLess 55 = .ok (.invokevirtual 285, 3) := by decide +kernel
theorem dX5_jumpIfLess_58 : decode cX5_jumpIfLess 58 = .ok (.goto 13, 3) := by decide +kernel
theorem dX5_jumpIfLess_61 : decode cX5_jumpIfLess 61 = .ok (.aload_n 1, 1) := by decide +kernel
theorem dX5_jumpIfLess_62 : decode cX5_jumpIfLess 62 = .ok (.dup, 1) := by decide +kernel
theorem dX5_jumpIfLess_63 : decode cX5_jumpIfLess 63 = .ok (.getfield 256, 3) := by decide +kernel
theorem dX5_jumpIfLess_66 : decode cX5_jumpIfLess 66 = .ok (.iconst 1, 1) := by decide +kernel
theorem dX5_jumpIfLess_67 : decode cX5_jumpIfLess 67 = .ok (.iadd, 1) := by decide +kernel
theorem dX5_jumpIfLess_68 : decode cX5_jumpIfLess 68 = .ok (.putfield 256, 3) := by decide +kernel
theorem dX5_jumpIfLess_71 : decode cX5_jumpIfLess 71 = .ok (.return_, 1) := by decide +kernel
theorem dX5_jump_0 : decode cX5_jump 0 = .ok (.iload_n 2, 1) := by decide +kernel
theorem dX5_jump_1 : decode cX5_jump 1 = .ok (.aload_n 1, 1) := by decide +kernel
theorem dX5_jump_2 : decode cX5_jump 2 = .ok (.getfield 256, 3) := by decide +kernel
theorem dX5_jump_5 : decode cX5_jump 5 = .ok (.if_icmp .gt 7, 3) := by decide +kernel
theorem dX5_jump_8 : decode cX5_jump 8 = .ok (.iconst 1, 1) := by decide +kernel
theorem dX5_jump_9 : decode cX5_jump 9 = .ok (.goto 4, 3) := by decide +kernel
theorem dX5_jump_12 : decode cX5_jump 12 = .ok (.iconst 0, 1) := by decide +kernel
theorem dX5_jump_13 : decode cX5_jump 13 = .ok (.istore_n 3, 1) := by decide +kernel
theorem dX5_jump_14 : decode cX5_jump 14 = .ok (.aload_n 1, 1) := by decide +kernel
theorem dX5_jump_15 : decode cX5_jump 15 = .ok (.iload_n 2, 1) := by decide +kernel
theorem dX5_jump_16 : decode cX5_jump 16 = .ok (.putfield 256, 3) := by decide +kernel
theorem dX5_jump_19 : decode cX5_jump 19 = .ok (.iload_n 3, 1) := by decide +kernel
theorem dX5_jump_20 : decode cX5_jump 20 = .ok (.ifCond .ne 4, 3) := by decide +kernel
theorem dX5_jump_23 : decode cX5_jump 23 = .ok (.return_, 1) := by decide +kernel
theorem dX5_jump_24 : decode cX5_jump 24 = .ok (.aload_n 0, 1) := by decide +kernel
theorem dX5_jump_25 : decode cX5_jump 25 = .ok (.getfield 19, 3) := by decide +kernel
theorem dX5_jump_28 : decode cX5_jump 28 = .ok (.aload_n 1, 1) := by decide +kernel
theorem dX5_jump_29 : decode cX5_jump 29 = .ok (.getfield 253, 3) := by decide +kernel
theorem dX5_jump_32 : decode cX5_jump 32 = .ok (.invokevirtual 120, 3) := by decide +kernel
theorem dX5_jump_35 : decode cX5_jump 35 = .ok (.checkcast 76, 3) := by decide +kernel
theorem dX5_jump_38 : decode cX5_jump 38 = .ok (.astore 4, 2) := by decide +kernel
theorem dX5_jump_40 : decode cX5_jump 40 = .ok (.aload_n 0, 1) := by decide +kernel
theorem dX5_jump_41 : decode cX5_jump 41 = .ok (.aload 4, 2) := by decide +kernel
theorem dX5_jump_43 : decode cX5_jump 43 = .ok (.invokevirtual 238, 3) := by decide +kernel
theorem dX5_jump_46 : decode cX5_jump 46 = .ok (.aload 4, 2) := by decide +kernel
theorem dX5_jump_48 : decode cX5_jump 48 = .ok (.getfield 124, 3) := by decide +kernel
theorem dX5_jump_51 : decode cX5_jump 51 = .ok (.aload_n 1, 1) := by decide +kernel
theorem dX5_jump_52 : decode cX5_jump 52 = .ok (.getfield 268, 3) := by decide +kernel
theorem dX5_jump_55 : decode cX5_jump 55 = .ok (.if_icmp .le 22, 3) := by decide +kernel
theorem dX5_jump_58 : decode cX5_jump 58 = .ok (.aload_n 1, 1) := by decide +kernel
