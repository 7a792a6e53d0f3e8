theorem dX0_init_0 : decode cX0_init 0 = .ok (.aload_n 0, 1) := by decide +kernel
theorem dX0_init_1 : decode cX0_init 1 = .ok (.invokespecial 5, 3) := by decide +kernel
theorem dX0_init_4 : decode cX0_init 4 = .ok (.aload_n 0, 1) := by decide +kernel
theorem dX0_init_5 : decode cX0_init 5 = .ok (.iconst 3, 1) := by decide +kernel
theorem dX0_init_6 : decode cX0_init 6 = .ok (.anewarray 11, 3) := by decide +kernel
theorem dX0_init_9 : decode cX0_init 9 = .ok (.putfield 13, 3) := by decide +kernel
theorem dX0_init_12 : decode cX0_init 12 = .ok (.aload_n 0, 1) := by decide +kernel
theorem dX0_init_13 : decode cX0_init 13 = .ok (.bipush 9, 2) := by decide +kernel
theorem dX0_init_15 : decode cX0_init 15 = .ok (.newarray .int, 2) := by decide +kernel
theorem dX0_init_17 : decode cX0_init 17 = .ok (.putfield 17, 3) := by decide +kernel
theorem dX0_init_20 : decode cX0_init 20 = .ok (.aload_n 0, 1) := by decide +kernel
theorem dX0_init_21 : decode cX0_init 21 = .ok (.bipush 40, 2) := by decide +kernel
theorem dX0_init_23 : decode cX0_init 23 = .ok (.newarray .int, 2) := by decide +kernel
theorem dX0_init_25 : decode cX0_init 25 = .ok (.putfield 21, 3) := by decide +kernel
theorem dX0_init_28 : decode cX0_init 28 = .ok (.aload_n 0, 1) := by decide +kernel
theorem dX0_init_29 : decode cX0_init 29 = .ok (.sipush 216, 3) := by decide +kernel
theorem dX0_init_32 : decode cX0_init 32 = .ok (.newarray .int, 2) := by decide +kernel
theorem dX0_init_34 : decode cX0_init 34 = .ok (.putfield 24, 3) := by decide +kernel
theorem dX0_init_37 : decode cX0_init 37 = .ok (.aload_n 0, 1) := by decide +kernel
theorem dX0_init_38 : decode cX0_init 38 = .ok (.bipush 48, 2) := by decide +kernel
theorem dX0_init_40 : decode cX0_init 40 = .ok (.newarray .int, 2) := by decide +kernel
theorem dX0_init_42 : decode cX0_init 42 = .ok (.putfield 27, 3) := by decide +kernel
theorem dX0_init_45 : decode cX0_init 45 = .ok (.aload_n 0, 1) := by decide +kernel
theorem dX0_init_46 : decode cX0_init 46 = .ok (.bipush 64, 2) := by decide +kernel
theorem dX0_init_48 : decode cX0_init 48 = .ok (.newarray .int, 2) := by decide +kernel
theorem dX0_init_50 : decode cX0_init 50 = .ok (.putfield 30, 3) := by decide +kernel
theorem dX0_init_53 : decode cX0_init 53 = .ok (.aload_n 0, 1) := by decide +kernel
theorem dX0_init_54 : decode cX0_init 54 = .ok (.bipush 32, 2) := by decide +kernel
theorem dX0_init_56 : decode cX0_init 56 = .ok (.newarray .long, 2) := by decide +kernel
theorem dX0_init_58 : decode cX0_init 58 = .ok (.putfield 33, 3) := by decide +kernel
theorem dX0_init_61 : decode cX0_init 61 = .ok (.aload_n 0, 1) := by decide +kernel
theorem dX0_init_62 : decode cX0_init 62 = .ok (.bipush 32, 2) := by decide +kernel
theorem dX0_init_64 : decode cX0_init 64 = .ok (.newarray .int, 2) := by decide +kernel
theorem dX0_init_66 : decode cX0_init 66 = .ok (.putfield 37, 3) := by decide +kernel
theorem dX0_init_69 : decode cX0_init 69 = .ok (.aload_n 0, 1) := by decide +kernel
theorem dX0_init_70 : decode cX0_init 70 = .ok (.bipush 32, 2) := by decide +kernel
theorem dX0_init_72 : decode cX0_init 72 = .ok (.newarray .int, 2) := by decide +kernel
theorem dX0_init_74 : decode cX0_init 74 = .ok (.putfield 40, 3) := by decide +kernel
theorem dX0_init_77 : decode cX0_init 77 = .ok (.iconst 0, 1) := by decide +kernel
theorem dX0_init_78 : decode cX0_init 78 = .ok (.istore_n 1, 1) := by decide +kernel
theorem dX0_init_79 : decode cX0_init 79 = .ok (.iload_n 1, 1) := by decide +kernel
theorem dX0_init_80 : decode cX0_init 80 = .ok (.iconst 3, 1) := by decide +kernel
theorem dX0_init_81 : decode cX0_init 81 = .ok (.if_icmp .ge 22, 3) := by decide +kernel
theorem dX0_init_84 : decode cX0_init 84 = .ok (.aload_n 0, 1) := by decide +kernel
theorem dX0_init_85 : decode cX0_init 85 = .ok (.getfield 13, 3) := by decide +kernel
theorem dX0_init_88 : decode cX0_init 88 = .ok (.iload_n 1, 1) := by decide +kernel
theorem dX0_init_89 : decode cX0_init 89 = .ok (.new 11, 3) := by decide +kernel
theorem dX0_init_92 : decode cX0_init 92 = .ok (.dup, 1) := by decide +kernel
theorem dX0_init_93 : decode cX0_init 93 = .ok (.invokespecial 43, 3) := by decide +kernel
theorem dX0_init_96 : decode cX0_init 96 = .ok (.aastore, 1) := by decide +kernel
theorem dX0_init_97 : decode cX0_init 97 = .ok (.iinc 1 1, 3) := by decide +kernel
theorem dX0_init_100 : decode cX0_init 100 = .ok (.goto (-21), 3) := by decide +kernel
theorem dX0_init_103 : decode cX0_init 103 = .ok (.return_, 1) := by decide +kernel
theorem dX0_clear_0 : decode cX0_clear 0 = .ok (.iconst 0, 1) := by decide +kernel
theorem dX0_clear_1 : decode cX0_clear 1 = .ok (.istore_n 1, 1) := by decide +kernel
theorem dX0_clear_2 : decode cX0_clear 2 = .ok (.iload_n 1, 1) := by decide +kernel
theorem dX0_clear_3 : decode cX0_clear 3 = .ok (.iconst 3, 1) := by decide +kernel
theorem dX0_clear_4 : decode cX0_clear 4 = .ok (.if_icmp .ge 19, 3) := by decide +kernel
theorem dX0_clear_7 : decode cX0_clear 7 = .ok (.aload_n 0, 1) := by decide +kernel
theorem dX0_clear_8 : decode cX0_clear 8 = .ok (.getfield 13, 3) := by decide +kernel
theorem dX0_clear_11 : decode cX0_clear 11 = .ok (.iload_n 1, 1) := by decide +kernel
theorem dX0_clear_12 : decode cX0_clear 12 = .ok (.aaload, 1) := by decide +kernel
theorem dX0_clear_13 : decode cX0_clear 13 = .ok (.iconst 0, 1) := by decide +kernel
theorem dX0_clear_14 : decode cX0_clear 14 = .ok (.putfield 44, 3) := by decide +kernel
theorem dX0_clear_17 : decode cX0_clear 17 = .ok (.iinc 1 1, 3) := by decide +kernel
theorem dX0_clear_20 : decode cX0_clear 20 = .ok (.goto (-18), 3) := by decide +kernel
theorem dX0_clear_23 : decode cX0_clear 23 = .ok (.aload_n 0, 1) := by decide +kernel
theorem dX0_clear_24 : decode cX0_clear 24 = .ok (.getfield 17, 3) := by decide +kernel
theorem dX0_clear_27 : decode cX0_clear 27 = .ok (.iconst 0, 1) := by decide +kernel
theorem dX0_clear_28 : decode cX0_clear 28 = .ok (.invokestatic 48, 3) := by decide +kernel
theorem dX0_clear_31 : decode cX0_clear 31 = .ok (.aload_n 0, 1) := by decide +kernel
theorem dX0_clear_32 : decode cX0_clear 32 = .ok (.getfield 24, 3) := by decide +kernel
theorem dX0_clear_35 : decode cX0_clear 35 = .ok (.iconst 0, 1) := by decide +kernel
theorem dX0_clear_36 : decode cX0_clear 36 = .ok (.invokestatic 48, 3) := by decide +kernel
theorem dX0_clear_39 : decode cX0_clear 39 = .ok (.aload_n 0, 1) := by decide +kernel
theorem dX0_clear_40 : decode cX0_clear 40 = .ok (.iconst 0, 1) := by decide +kernel
theorem dX0_clear_41 : decode cX0_clear 41 = .ok (.putfield 54, 3) := by decide +kernel
theorem dX0_clear_44 : decode cX0_clear 44 = .ok (.aload_n 0, 1) := by decide +kernel
theorem dX0_clear_45 : decode cX0_clear 45 = .ok (.iconst 0, 1) := by decide +kernel
theorem dX0_clear_46 : decode cX0_clear 46 = .ok (.putfield 57, 3) := by decide +kernel
theorem dX0_clear_49 : decode cX0_clear 49 = .ok (.aload_n 0, 1) := by decide +kernel
theorem dX0_clear_50 : decode cX0_clear 50 = .ok (.iconst 0, 1) := by decide +kernel
theorem dX0_clear_51 : decode cX0_clear 51 = .ok (.putfield 60, 3) := by decide +kernel
theorem dX0_clear_54 : decode cX0_clear 54 = .ok (.aload_n 0, 1) := by decide +kernel
theorem dX0_clear_55 : decode cX0_clear 55 = .ok (.iconst 0, 1) := by decide +kernel
theorem dX0_clear_56 : decode cX0_clear 56 = .ok (.putfield 63, 3) := by decide +kernel
theorem dX0_clear_59 : decode cX0_clear 59 = .ok (.aload_n 0, 1) := by decide +kernel
theorem dX0_clear_60 : decode cX0_clear 60 = .ok (.iconst 0, 1) := by decide +kernel
theorem dX0_clear_61 : decode cX0_clear 61 = .ok (.putfield 66, 3) := by decide +kernel
theorem dX0_clear_64 : decode cX0_clear 64 = .ok (.aload_n 0, 1) := by decide +kernel
theorem dX0_clear_65 : decode cX0_clear 65 = .ok (.iconst 0, 1) := by decide +kernel
theorem dX0_clear_66 : decode cX0_clear 66 = .ok (.putfield 69, 3) := by decide +kernel
theorem dX0_clear_69 : decode cX0_clear 69 = .ok (.aload_n 0, 1) := by decide +kernel
theorem dX0_clear_70 : decode cX0_clear 70 = .ok (.iconst 0, 1) := by decide +kernel
theorem dX0_clear_71 : decode cX0_clear 71 = .ok (.putfield 72, 3) := by decide +kernel
theorem dX0_clear_74 : decode cX0_clear 74 = .ok (.return_, 1) := by decide +kernel
theorem dX0_findName_0 : decode cX0_findName 0 = .ok (.iconst 0, 1) := by decide +kernel
theorem dX0_findName_1 : decode cX0_findName 1 = .ok (.istore_n 3, 1) := by decide +kernel
theorem dX0_findName_2 : decode cX0_findName 2 = .ok (.iload_n 3, 1) := by decide +kernel
theorem dX0_findName_3 : decode cX0_findName 3 = .ok (.aload_n 0, 1) := by decide +kernel
theorem dX0_findName_4 : decode cX0_findName 4 = .ok (.getfield 72, 3) := by decide +kernel
theorem dX0_findName_7 : decode cX0_findName 7 = .ok (.if_icmp .ge 22, 3) := by decide +kernel
theorem dX0_findName_10 : decode cX0_findName 10 = .ok (.aload_n 0, 1) := by decide +kernel
theorem dX0_findName_11 : decode cX0_findName 11 = .ok (.getfield 33, 3) := by decide +kernel
theorem dX0_findName_14 : decode cX0_findName 14 = .ok (.iload_n 3, 1) := by decide +kernel
theorem dX0_findName_15 : decode cX0_findName 15 = .ok (.laload, 1) := by decide +kernel
theorem dX0_findName_16 : decode cX0_findName 16 = .ok (.lload_n 1, 1) := by decide +kernel
theorem dX0_findName_17 : decode cX0_findName 17 = .ok (.lcmp, 1) := by decide +kernel
theorem dX0_findName_18 : decode cX0_findName 18 = .ok (.ifCond .ne 5, 3) := by decide +kernel
theorem dX0_findName_21 : decode cX0_findName 21 = .ok (.iload_n 3, 1) := by decide +kernel
theorem dX0_findName_22 : decode cX0_findName 22 = .ok (.ireturn, 1) := by decide +kernel
theorem dX0_findName_23 : decode cX0_findName 23 = .ok (.iinc 3 1, 3) := by decide +kernel
theorem dX0_findName_26 : decode cX0_findName 26 = .ok (.goto (-24), 3) := by decide +kernel
theorem dX0_findName_29 : decode cX0_findName 29 = .ok (.iconst (-1), 1) := by decide +kernel
theorem dX0_findName_30 : decode cX0_findName 30 = .ok (.ireturn, 1) := by decide +kernel
theorem dX0_addName_0 : decode cX0_addName 0 = .ok (.aload_n 0, 1) := by decide +kernel
theorem dX0_addName_1 : decode cX0_addName 1 = .ok (.getfield 72, 3) := by decide +kernel
theorem dX0_addName_4 : decode cX0_addName 4 = .ok (.bipush 32, 2) := by decide +kernel
theorem dX0_addName_6 : decode cX0_addName 6 = .ok (.if_icmp .ge 44, 3) := by decide +kernel
theorem dX0_addName_9 : decode cX0_addName 9 = .ok (.aload_n 0, 1) := by decide +kernel
theorem dX0_addName_10 : decode cX0_addName 10 = .ok (.getfield 33, 3) := by decide +kernel
theorem dX0_addName_13 : decode cX0_addName 13 = .ok (.aload_n 0, 1) := by decide +kernel
theorem dX0_addName_14 : decode cX0_addName 14 = .ok (.getfield 72, 3) := by decide +kernel
theorem dX0_addName_17 : decode cX0_addName 17 = .ok (.lload_n 1, 1) := by decide +kernel
theorem dX0_addName_18 : decode cX0_addName 18 = .ok (.lastore, 1) := by decide +kernel
theorem dX0_addName_19 : decode cX0_addName 19 = .ok (.aload_n 0, 1) := by decide +kernel
theorem dX0_addName_20 : decode cX0_addName 20 = .ok (.getfield 37, 3) := by decide +kernel
theorem dX0_addName_23 : decode cX0_addName 23 = .ok (.aload_n 0, 1) := by decide +kernel
theorem dX0_addName_24 : decode cX0_addName 24 = .ok (.getfield 72, 3) := by decide +kernel
theorem dX0_addName_27 : decode cX0_addName 27 = .ok (.iload_n 3, 1) := by decide +kernel
theorem dX0_addName_28 : decode cX0_addName 28 = .ok (.iastore, 1) := by decide +kernel
theorem dX0_addName_29 : decode cX0_addName 29 = .ok (.aload_n 0, 1) := by decide +kernel
theorem dX0_addName_30 : decode cX0_addName 30 = .ok (.getfield 40, 3) := by decide +kernel
theorem dX0_addName_33 : decode cX0_addName 33 = .ok (.aload_n 0, 1) := by decide +kernel
theorem dX0_addName_34 : decode cX0_addName 34 = .ok (.getfield 72, 3) := by decide +kernel
theorem dX0_addName_37 : decode cX0_addName 37 = .ok (.iload 4, 2) := by decide +kernel
theorem dX0_addName_39 : decode cX0_addName 39 = .ok (.iastore, 1) := by decide +kernel
theorem dX0_addName_40 : decode cX0_addName 40 = .ok (.aload_n 0, 1) := by decide +kernel
theorem dX0_addName_41 : decode cX0_addName 41 = .ok (.dup, 1) := by decide +kernel
theorem dX0_addName_42 : decode cX0_addName 42 = .ok (.getfield 72, 3) := by decide +kernel
theorem dX0_addName_45 : decode cX0_addName 45 = .ok (.iconst 1, 1) := by decide +kernel
theorem dX0_addName_46 : decode cX0_addName 46 = .ok (.iadd, 1) := by decide +kernel
theorem dX0_addName_47 : decode cX0_addName 47 = .ok (.putfield 72, 3) := by decide +kernel
theorem dX0_addName_50 : decode cX0_addName 50 = .ok (.return_, 1) := by decide +kernel
theorem dX0_hasWay_0 : decode cX0_hasWay 0 = .ok (.aload_n 0, 1) := by decide +kernel
theorem dX0_hasWay_1 : decode cX0_hasWay 1 = .ok (.getfield 17, 3) := by decide +kernel
theorem dX0_hasWay_4 : decode cX0_hasWay 4 = .ok (.iload_n 1, 1) := by decide +kernel
theorem dX0_hasWay_5 : decode cX0_hasWay 5 = .ok (.iconst 3, 1) := by decide +kernel
theorem dX0_hasWay_6 : decode cX0_hasWay 6 = .ok (.imul, 1) := by decide +kernel
theorem dX0_hasWay_7 : decode cX0_hasWay 7 = .ok (.iload_n 2, 1) := by decide +kernel
theorem dX0_hasWay_8 : decode cX0_hasWay 8 = .ok (.iadd, 1) := by decide +kernel
theorem dX0_hasWay_9 : decode cX0_hasWay 9 = .ok (.iaload, 1) := by decide +kernel
theorem dX0_hasWay_10 : decode cX0_hasWay 10 = .ok (.ifCond .le 7, 3) := by decide +kernel
theorem dX0_hasWay_13 : decode cX0_hasWay 13 = .ok (.iconst 1, 1) := by decide +kernel
theorem dX0_hasWay_14 : decode cX0_hasWay 14 = .ok (.goto 4, 3) := by decide +kernel
theorem dX0_hasWay_17 : decode cX0_hasWay 17 = .ok (.iconst 0, 1) := by decide +kernel
theorem dX0_hasWay_18 : decode cX0_hasWay 18 = .ok (.ireturn, 1) := by decide +kernel
theorem dX0_addWay_0 : decode cX0_addWay 0 = .ok (.aload_n 0, 1) := by decide +kernel
theorem dX0_addWay_1 : decode cX0_addWay 1 = .ok (.getfield 17, 3) := by decide +kernel
theorem dX0_addWay_4 : decode cX0_addWay 4 = .ok (.iload_n 1, 1) := by decide +kernel
theorem dX0_addWay_5 : decode cX0_addWay 5 = .ok (.iconst 3, 1) := by decide +kernel
theorem dX0_addWay_6 : decode cX0_addWay 6 = .ok (.imul, 1) := by decide +kernel
theorem dX0_addWay_7 : decode cX0_addWay 7 = .ok (.iload_n 2, 1) := by decide +kernel
theorem dX0_addWay_8 : decode cX0_addWay 8 = .ok (.iadd, 1) := by decide +kernel
theorem dX0_addWay_9 : decode cX0_addWay 9 = .ok (.iload_n 3, 1) := by decide +kernel
theorem dX0_addWay_10 : decode cX0_addWay 10 = .ok (.iastore, 1) := by decide +kernel
theorem dX0_addWay_11 : decode cX0_addWay 11 = .ok (.aload_n 0, 1) := by decide +kernel
theorem dX0_addWay_12 : decode cX0_addWay 12 = .ok (.getfield 17, 3) := by decide +kernel
theorem dX0_addWay_15 : decode cX0_addWay 15 = .ok (.iload_n 2, 1) := by decide +kernel
theorem dX0_addWay_16 : decode cX0_addWay 16 = .ok (.iconst 3, 1) := by decide +kernel
theorem dX0_addWay_17 : decode cX0_addWay 17 = .ok (.imul, 1) := by decide +kernel
theorem dX0_addWay_18 : decode cX0_addWay 18 = .ok (.iload_n 1, 1) := by decide +kernel
theorem dX0_addWay_19 : decode cX0_addWay 19 = .ok (.iadd, 1) := by decide +kernel
theorem dX0_addWay_20 : decode cX0_addWay 20 = .ok (.iload_n 3, 1) := by decide +kernel
theorem dX0_addWay_21 : decode cX0_addWay 21 = .ok (.iastore, 1) := by decide +kernel
theorem dX0_addWay_22 : decode cX0_addWay 22 = .ok (.aload_n 0, 1) := by decide +kernel
theorem dX0_addWay_23 : decode cX0_addWay 23 = .ok (.dup, 1) := by decide +kernel
theorem dX0_addWay_24 : decode cX0_addWay 24 = .ok (.getfield 57, 3) := by decide +kernel
theorem dX0_addWay_27 : decode cX0_addWay 27 = .ok (.iconst 1, 1) := by decide +kernel
theorem dX0_addWay_28 : decode cX0_addWay 28 = .ok (.iadd, 1) := by decide +kernel
theorem dX0_addWay_29 : decode cX0_addWay 29 = .ok (.putfield 57, 3) := by decide +kernel
theorem dX0_addWay_32 : decode cX0_addWay 32 = .ok (.return_, 1) := by decide +kernel
theorem dX0_shortestWay_0 : decode cX0_shortestWay 0 = .ok (.iload_n 1, 1) := by decide +kernel
theorem dX0_shortestWay_1 : decode cX0_shortestWay 1 = .ok (.iload_n 2, 1) := by decide +kernel
theorem dX0_shortestWay_2 : decode cX0_shortestWay 2 = .ok (.if_icmp .ne 5, 3) := by decide +kernel
theorem dX0_shortestWay_5 : decode cX0_shortestWay 5 = .ok (.iconst 0, 1) := by decide +kernel
theorem dX0_shortestWay_6 : decode cX0_shortestWay 6 = .ok (.ireturn, 1) := by decide +kernel
theorem dX0_shortestWay_7 : decode cX0_shortestWay 7 = .ok (.aload_n 0, 1) := by decide +kernel
theorem dX0_shortestWay_8 : decode cX0_shortestWay 8 = .ok (.iload_n 1, 1) := by decide +kernel
theorem dX0_shortestWay_9 : decode cX0_shortestWay 9 = .ok (.iload_n 2, 1) := by decide +kernel
theorem dX0_shortestWay_10 : decode cX0_shortestWay 10 = .ok (.invokevirtual 75, 3) := by decide +kernel
theorem dX0_shortestWay_13 : decode cX0_shortestWay 13 = .ok (.ifCond .eq 16, 3) := by decide +kernel
theorem dX0_shortestWay_16 : decode cX0_shortestWay 16 = .ok (.aload_n 0, 1) := by decide +kernel
theorem dX0_shortestWay_17 : decode cX0_shortestWay 17 = .ok (.getfield 17, 3) := by decide +kernel
theorem dX0_shortestWay_20 : decode cX0_shortestWay 20 = .ok (.iload_n 1, 1) := by decide +kernel
theorem dX0_shortestWay_21 : decode cX0_shortestWay 21 = .ok (.iconst 3, 1) := by decide +kernel
theorem dX0_shortestWay_22 : decode cX0_shortestWay 22 = .ok (.imul, 1) := by decide +kernel
theorem dX0_shortestWay_23 : decode cX0_shortestWay 23 = .ok (.iload_n 2, 1) := by decide +kernel
theorem dX0_shortestWay_24 : decode cX0_shortestWay 24 = .ok (.iadd, 1) := by decide +kernel
theorem dX0_shortestWay_25 : decode cX0_shortestWay 25 = .ok (.iaload, 1) := by decide +kernel
theorem dX0_shortestWay_26 : decode cX0_shortestWay 26 = .ok (.goto 4, 3) := by decide +kernel
theorem dX0_shortestWay_29 : decode cX0_shortestWay 29 = .ok (.iconst (-1), 1) := by decide +kernel
theorem dX0_shortestWay_30 : decode cX0_shortestWay 30 = .ok (.istore_n 3, 1) := by decide +kernel
theorem dX0_shortestWay_31 : decode cX0_shortestWay 31 = .ok (.iconst 0, 1) := by decide +kernel
theorem dX0_shortestWay_32 : decode cX0_shortestWay 32 = .ok (.istore 4, 2) := by decide +kernel
theorem dX0_shortestWay_34 : decode cX0_shortestWay 34 = .ok (.iload 4, 2) := by decide +kernel
theorem dX0_shortestWay_36 : decode cX0_shortestWay 36 = .ok (.aload_n 0, 1) := by decide +kernel
theorem dX0_shortestWay_37 : decode cX0_shortestWay 37 = .ok (.getfield 54, 3) := by decide +kernel
theorem dX0_shortestWay_40 : decode cX0_shortestWay 40 = .ok (.if_icmp .ge 71, 3) := by decide +kernel
theorem dX0_shortestWay_43 : decode cX0_shortestWay 43 = .ok (.aload_n 0, 1) := by decide +kernel
theorem dX0_shortestWay_44 : decode cX0_shortestWay 44 = .ok (.iload_n 1, 1) := by decide +kernel
theorem dX0_shortestWay_45 : decode cX0_shortestWay 45 = .ok (.iload 4, 2) := by decide +kernel
theorem dX0_shortestWay_47 : decode cX0_shortestWay 47 = .ok (.invokevirtual 75, 3) := by decide +kernel
theorem dX0_shortestWay_50 : decode cX0_shortestWay 50 = .ok (.ifCond .eq 55, 3) := by decide +kernel
theorem dX0_shortestWay_53 : decode cX0_shortestWay 53 = .ok (.aload_n 0, 1) := by decide +kernel
theorem dX0_shortestWay_54 : decode cX0_shortestWay 54 = .ok (.iload 4, 2) := by decide +kernel
theorem dX0_shortestWay_56 : decode cX0_shortestWay 56 = .ok (.iload_n 2, 1) := by decide +kernel
theorem dX0_shortestWay_57 : decode cX0_shortestWay 57 = .ok (.invokevirtual 75, 3) := by decide +kernel
theorem dX0_shortestWay_60 : decode cX0_shortestWay 60 = .ok (.ifCond .eq 45, 3) := by decide +kernel
theorem dX0_shortestWay_63 : decode cX0_shortestWay 63 = .ok (.aload_n 0, 1) := by decide +kernel
theorem dX0_shortestWay_64 : decode cX0_shortestWay 64 = .ok (.getfield 17, 3) := by decide +kernel
theorem dX0_shortestWay_67 : decode cX0_shortestWay 67 = .ok (.iload_n 1, 1) := by decide +kernel
theorem dX0_shortestWay_68 : decode cX0_shortestWay 68 = .ok (.iconst 3, 1) := by decide +kernel
theorem dX0_shortestWay_69 : decode cX0_shortestWay 69 = .ok (.imul, 1) := by decide +kernel
theorem dX0_shortestWay_70 : decode cX0_shortestWay 70 = .ok (.iload 4, 2) := by decide +kernel
theorem dX0_shortestWay_72 : decode cX0_shortestWay 72 = .ok (.iadd, 1) := by decide +kernel
theorem dX0_shortestWay_73 : decode cX0_shortestWay 73 = .ok (.iaload, 1) := by decide +kernel
theorem dX0_shortestWay_74 : decode cX0_shortestWay 74 = .ok (.aload_n 0, 1) := by decide +kernel
theorem dX0_shortestWay_75 : decode cX0_shortestWay 75 = .ok (.getfield 17, 3) := by decide +kernel
theorem dX0_shortestWay_78 : decode cX0_shortestWay 78 = .ok (.iload 4, 2) := by decide +kernel
theorem dX0_shortestWay_80 : decode cX0_shortestWay 80 = .ok (.iconst 3, 1) := by decide +kernel
theorem dX0_shortestWay_81 : decode cX0_shortestWay 81 = .ok (.imul, 1) := by decide +kernel
theorem dX0_shortestWay_82 : decode cX0_shortestWay 82 = .ok (.iload_n 2, 1) := by decide +kernel
theorem dX0_shortestWay_83 : decode cX0_shortestWay 83 = .ok (.iadd, 1) := by decide +kernel
theorem dX0_shortestWay_84 : decode cX0_shortestWay 84 = .ok (.iaload, 1) := by decide +kernel
theorem dX0_shortestWay_85 : decode cX0_shortestWay 85 = .ok (.iadd, 1) := by decide +kernel
theorem dX0_shortestWay_86 : decode cX0_shortestWay 86 = .ok (.istore 5, 2) := by decide +kernel
theorem dX0_shortestWay_88 : decode cX0_shortestWay 88 = .ok (.iload_n 3, 1) := by decide +kernel
theorem dX0_shortestWay_89 : decode cX0_shortestWay 89 = .ok (.iconst (-1), 1) := by decide +kernel
theorem dX0_shortestWay_90 : decode cX0_shortestWay 90 = .ok (.if_icmp .ne 8, 3) := by decide +kernel
theorem dX0_shortestWay_93 : decode cX0_shortestWay 93 = .ok (.iload 5, 2) := by decide +kernel
theorem dX0_shortestWay_95 : decode cX0_shortestWay 95 = .ok (.goto 9, 3) := by decide +kernel
theorem dX0_shortestWay_98 : decode cX0_shortestWay 98 = .ok (.iload_n 3, 1) := by decide +kernel
theorem dX0_shortestWay_99 : decode cX0_shortestWay 99 = .ok (.iload 5, 2) := by decide +kernel
theorem dX0_shortestWay_101 : decode cX0_shortestWay 101 = .ok (.invokestatic 79, 3) := by decide +kernel
theorem dX0_shortestWay_104 : decode cX0_shortestWay 104 = .ok (.istore_n 3, 1) := by decide +kernel
theorem dX0_shortestWay_105 : decode cX0_shortestWay 105 = .ok (.iinc 4 1, 3) := by decide +kernel
theorem dX0_shortestWay_108 : decode cX0_shortestWay 108 = .ok (.goto (-74), 3) := by decide +kernel
theorem dX0_shortestWay_111 : decode cX0_shortestWay 111 = .ok (.iload_n 3, 1) := by decide +kernel
theorem dX0_shortestWay_112 : decode cX0_shortestWay 112 = .ok (.ireturn, 1) := by decide +kernel
theorem dX0_worthOf_0 : decode cX0_worthOf 0 = .ok (.aload_n 0, 1) := by decide +kernel
theorem dX0_worthOf_1 : decode cX0_worthOf 1 = .ok (.getfield 24, 3) := by decide +kernel
theorem dX0_worthOf_4 : decode cX0_worthOf 4 = .ok (.iload_n 1, 1) := by decide +kernel
theorem dX0_worthOf_5 : decode cX0_worthOf 5 = .ok (.bipush 24, 2) := by decide +kernel
theorem dX0_worthOf_7 : decode cX0_worthOf 7 = .ok (.imul, 1) := by decide +kernel
theorem dX0_worthOf_8 : decode cX0_worthOf 8 = .ok (.iload_n 2, 1) := by decide +kernel
theorem dX0_worthOf_9 : decode cX0_worthOf 9 = .ok (.iadd, 1) := by decide +kernel
theorem dX0_worthOf_10 : decode cX0_worthOf 10 = .ok (.iconst 1, 1) := by decide +kernel
theorem dX0_worthOf_11 : decode cX0_worthOf 11 = .ok (.isub, 1) := by decide +kernel
theorem dX0_worthOf_12 : decode cX0_worthOf 12 = .ok (.iaload, 1) := by decide +kernel
theorem dX0_worthOf_13 : decode cX0_worthOf 13 = .ok (.ireturn, 1) := by decide +kernel
theorem dX0_setWorth_0 : decode cX0_setWorth 0 = .ok (.aload_n 0, 1) := by decide +kernel
theorem dX0_setWorth_1 : decode cX0_setWorth 1 = .ok (.getfield 24, 3) := by decide +kernel
theorem dX0_setWorth_4 : decode cX0_setWorth 4 = .ok (.iload_n 1, 1) := by decide +kernel
theorem dX0_setWorth_5 : decode cX0_setWorth 5 = .ok (.bipush 24, 2) := by decide +kernel
theorem dX0_setWorth_7 : decode cX0_setWorth 7 = .ok (.imul, 1) := by decide +kernel
theorem dX0_setWorth_8 : decode cX0_setWorth 8 = .ok (.iload_n 2, 1) := by decide +kernel
theorem dX0_setWorth_9 : decode cX0_setWorth 9 = .ok (.iadd, 1) := by decide +kernel
theorem dX0_setWorth_10 : decode cX0_setWorth 10 = .ok (.iconst 1, 1) := by decide +kernel
theorem dX0_setWorth_11 : decode cX0_setWorth 11 = .ok (.isub, 1) := by decide +kernel
theorem dX0_setWorth_12 : decode cX0_setWorth 12 = .ok (.iload_n 3, 1) := by decide +kernel
theorem dX0_setWorth_13 : decode cX0_setWorth 13 = .ok (.iastore, 1) := by decide +kernel
theorem dX0_setWorth_14 : decode cX0_setWorth 14 = .ok (.return_, 1) := by decide +kernel
theorem dX0_friendsOf_0 : decode cX0_friendsOf 0 = .ok (.iconst 0, 1) := by decide +kernel
theorem dX0_friendsOf_1 : decode cX0_friendsOf 1 = .ok (.istore_n 3, 1) := by decide +kernel
theorem dX0_friendsOf_2 : decode cX0_friendsOf 2 = .ok (.iconst 0, 1) := by decide +kernel
theorem dX0_friendsOf_3 : decode cX0_friendsOf 3 = .ok (.istore 4, 2) := by decide +kernel
theorem dX0_friendsOf_5 : decode cX0_friendsOf 5 = .ok (.iload 4, 2) := by decide +kernel
theorem dX0_friendsOf_7 : decode cX0_friendsOf 7 = .ok (.aload_n 0, 1) := by decide +kernel
theorem dX0_friendsOf_8 : decode cX0_friendsOf 8 = .ok (.getfield 63, 3) := by decide +kernel
theorem dX0_friendsOf_11 : decode cX0_friendsOf 11 = .ok (.if_icmp .ge 29, 3) := by decide +kernel
theorem dX0_friendsOf_14 : decode cX0_friendsOf 14 = .ok (.aload_n 0, 1) := by decide +kernel
theorem dX0_friendsOf_15 : decode cX0_friendsOf 15 = .ok (.iload 4, 2) := by decide +kernel
theorem dX0_friendsOf_17 : decode cX0_friendsOf 17 = .ok (.iload_n 1, 1) := by decide +kernel
theorem dX0_friendsOf_18 : decode cX0_friendsOf 18 = .ok (.invokevirtual 85, 3) := by decide +kernel
theorem dX0_friendsOf_21 : decode cX0_friendsOf 21 = .ok (.aload_n 0, 1) := by decide +kernel
theorem dX0_friendsOf_22 : decode cX0_friendsOf 22 = .ok (.iload 4, 2) := by decide +kernel
theorem dX0_friendsOf_24 : decode cX0_friendsOf 24 = .ok (.iload_n 2, 1) := by decide +kernel
theorem dX0_friendsOf_25 : decode cX0_friendsOf 25 = .ok (.invokevirtual 85, 3) := by decide +kernel
theorem dX0_friendsOf_28 : decode cX0_friendsOf 28 = .ok (.if_icmp .le 6, 3) := by decide +kernel
theorem dX0_friendsOf_31 : decode cX0_friendsOf 31 = .ok (.iinc 3 1, 3) := by decide +kernel
theorem dX0_friendsOf_34 : decode cX0_friendsOf 34 = .ok (.iinc 4 1, 3) := by decide +kernel
theorem dX0_friendsOf_37 : decode cX0_friendsOf 37 = .ok (.goto (-32), 3) := by decide +kernel
theorem dX0_friendsOf_40 : decode cX0_friendsOf 40 = .ok (.iload_n 3, 1) := by decide +kernel
theorem dX0_friendsOf_41 : decode cX0_friendsOf 41 = .ok (.ireturn, 1) := by decide +kernel
theorem dX1_init_0 : decode cX1_init 0 = .ok (.aload_n 0, 1) := by decide +kernel
theorem dX1_init_1 : decode cX1_init 1 = .ok (.invokespecial 3, 3) := by decide +kernel
theorem dX1_init_4 : decode cX1_init 4 = .ok (.aload_n 0, 1) := by decide +kernel
theorem dX1_init_5 : decode cX1_init 5 = .ok (.bipush 12, 2) := by decide +kernel
theorem dX1_init_7 : decode cX1_init 7 = .ok (.newarray .int, 2) := by decide +kernel
theorem dX1_init_9 : decode cX1_init 9 = .ok (.putfield 11, 3) := by decide +kernel
theorem dX1_init_12 : decode cX1_init 12 = .ok (.return_, 1) := by decide +kernel
theorem dX1_dayOf_0 : decode cX1_dayOf 0 = .ok (.iload_n 0, 1) := by decide +kernel
theorem dX1_dayOf_1 : decode cX1_dayOf 1 = .ok (.iconst 1, 1) := by decide +kernel
theorem dX1_dayOf_2 : decode cX1_dayOf 2 = .ok (.isub, 1) := by decide +kernel
theorem dX1_dayOf_3 : decode cX1_dayOf 3 = .ok (.sipush 1440, 3) := by decide +kernel
theorem dX1_dayOf_6 : decode cX1_dayOf 6 = .ok (.idiv, 1) := by decide +kernel
theorem dX1_dayOf_7 : decode cX1_dayOf 7 = .ok (.ireturn, 1) := by decide +kernel
theorem dX1_strokeOn_0 : decode cX1_strokeOn 0 = .ok (.iconst 0, 1) := by decide +kernel
theorem dX1_strokeOn_1 : decode cX1_strokeOn 1 = .ok (.istore_n 2, 1) := by decide +kernel
theorem dX1_strokeOn_2 : decode cX1_strokeOn 2 = .ok (.iload_n 2, 1) := by decide +kernel
theorem dX1_strokeOn_3 : decode cX1_strokeOn 3 = .ok (.aload_n 0, 1) := by decide +kernel
theorem dX1_strokeOn_4 : decode cX1_strokeOn 4 = .ok (.getfield 15, 3) := by decide +kernel
theorem dX1_strokeOn_7 : decode cX1_strokeOn 7 = .ok (.if_icmp .ge 29, 3) := by decide +kernel
theorem dX1_strokeOn_10 : decode cX1_strokeOn 10 = .ok (.aload_n 0, 1) := by decide +kernel
theorem dX1_strokeOn_11 : decode cX1_strokeOn 11 = .ok (.getfield 11, 3) := by decide +kernel
theorem dX1_strokeOn_14 : decode cX1_strokeOn 14 = .ok (.iload_n 2, 1) := by decide +kernel
theorem dX1_strokeOn_15 : decode cX1_strokeOn 15 = .ok (.iaload, 1) := by decide +kernel
theorem dX1_strokeOn_16 : decode cX1_strokeOn 16 = .ok (.invokestatic 19, 3) := by decide +kernel
theorem dX1_strokeOn_19 : decode cX1_strokeOn 19 = .ok (.iload_n 1, 1) := by decide +kernel
theorem dX1_strokeOn_20 : decode cX1_strokeOn 20 = .ok (.if_icmp .ne 10, 3) := by decide +kernel
theorem dX1_strokeOn_23 : decode cX1_strokeOn 23 = .ok (.aload_n 0, 1) := by decide +kernel
theorem dX1_strokeOn_24 : decode cX1_strokeOn 24 = .ok (.getfield 11, 3) := by decide +kernel
theorem dX1_strokeOn_27 : decode cX1_strokeOn 27 = .ok (.iload_n 2, 1) := by decide +kernel
theorem dX1_strokeOn_28 : decode cX1_strokeOn 28 = .ok (.iaload, 1) := by decide +kernel
theorem dX1_strokeOn_29 : decode cX1_strokeOn 29 = .ok (.ireturn, 1) := by decide +kernel
theorem dX1_strokeOn_30 : decode cX1_strokeOn 30 = .ok (.iinc 2 1, 3) := by decide +kernel
theorem dX1_strokeOn_33 : decode cX1_strokeOn 33 = .ok (.goto (-31), 3) := by decide +kernel
theorem dX1_strokeOn_36 : decode cX1_strokeOn 36 = .ok (.iconst (-1), 1) := by decide +kernel
theorem dX1_strokeOn_37 : decode cX1_strokeOn 37 = .ok (.ireturn, 1) := by decide +kernel
theorem dX1_add_0 : decode cX1_add 0 = .ok (.aload_n 0, 1) := by decide +kernel
theorem dX1_add_1 : decode cX1_add 1 = .ok (.getfield 15, 3) := by decide +kernel
theorem dX1_add_4 : decode cX1_add 4 = .ok (.bipush 12, 2) := by decide +kernel
theorem dX1_add_6 : decode cX1_add 6 = .ok (.if_icmp .lt 4, 3) := by decide +kernel
theorem dX1_add_9 : decode cX1_add 9 = .ok (.return_, 1) := by decide +kernel
theorem dX1_add_10 : decode cX1_add 10 = .ok (.aload_n 0, 1) := by decide +kernel
theorem dX1_add_11 : decode cX1_add 11 = .ok (.getfield 15, 3) := by decide +kernel
theorem dX1_add_14 : decode cX1_add 14 = .ok (.istore_n 2, 1) := by decide +kernel
theorem dX1_add_15 : decode cX1_add 15 = .ok (.iload_n 2, 1) := by decide +kernel
theorem dX1_add_16 : decode cX1_add 16 = .ok (.ifCond .le 35, 3) := by decide +kernel
theorem dX1_add_19 : decode cX1_add 19 = .ok (.aload_n 0, 1) := by decide +kernel
theorem dX1_add_20 : decode cX1_add 20 = .ok (.getfield 11, 3) := by decide +kernel
theorem dX1_add_23 : decode cX1_add 23 = .ok (.iload_n 2, 1) := by decide +kernel
theorem dX1_add_24 : decode cX1_add 24 = .ok (.iconst 1, 1) := by decide +kernel
theorem dX1_add_25 : decode cX1_add 25 = .ok (.isub, 1) := by decide +kernel
theorem dX1_add_26 : decode cX1_add 26 = .ok (.iaload, 1) := by decide +kernel
theorem dX1_add_27 : decode cX1_add 27 = .ok (.iload_n 1, 1) := by decide +kernel
theorem dX1_add_28 : decode cX1_add 28 = .ok (.if_icmp .le 23, 3) := by decide +kernel
theorem dX1_add_31 : decode cX1_add 31 = .ok (.aload_n 0, 1) := by decide +kernel
theorem dX1_add_32 : decode cX1_add 32 = .ok (.getfield 11, 3) := by decide +kernel
theorem dX1_add_35 : decode cX1_add 35 = .ok (.iload_n 2, 1) := by decide +kernel
theorem dX1_add_36 : decode cX1_add 36 = .ok (.aload_n 0, 1) := by decide +kernel
theorem dX1_add_37 : decode cX1_add 37 = .ok (.getfield 11, 3) := by decide +kernel
theorem dX1_add_40 : decode cX1_add 40 = .ok (.iload_n 2, 1) := by decide +kernel
theorem dX1_add_41 : decode cX1_add 41 = .ok (.iconst 1, 1) := by decide +kernel
theorem dX1_add_42 : decode cX1_add 42 = .ok (.isub, 1) := by decide +kernel
theorem dX1_add_43 : decode cX1_add 43 = .ok (.iaload, 1) := by decide +kernel
theorem dX1_add_44 : decode cX1_add 44 = .ok (.iastore, 1) := by decide +kernel
theorem dX1_add_45 : decode cX1_add 45 = .ok (.iinc 2 (-1), 3) := by decide +kernel
theorem dX1_add_48 : decode cX1_add 48 = .ok (.goto (-33), 3) := by decide +kernel
theorem dX1_add_51 : decode cX1_add 51 = .ok (.aload_n 0, 1) := by decide +kernel
theorem dX1_add_52 : decode cX1_add 52 = .ok (.getfield 11, 3) := by decide +kernel
theorem dX1_add_55 : decode cX1_add 55 = .ok (.iload_n 2, 1) := by decide +kernel
theorem dX1_add_56 : decode cX1_add 56 = .ok (.iload_n 1, 1) := by decide +kernel
theorem dX1_add_57 : decode cX1_add 57 = .ok (.iastore, 1) := by decide +kernel
theorem dX1_add_58 : decode cX1_add 58 = .ok (.aload_n 0, 1) := by decide +kernel
theorem dX1_add_59 : decode cX1_add 59 = .ok (.dup, 1) := by decide +kernel
theorem dX1_add_60 : decode cX1_add 60 = .ok (.getfield 15, 3) := by decide +kernel
theorem dX1_add_63 : decode cX1_add 63 = .ok (.iconst 1, 1) := by decide +kernel
theorem dX1_add_64 : decode cX1_add 64 = .ok (.iadd, 1) := by decide +kernel
theorem dX1_add_65 : decode cX1_add 65 = .ok (.putfield 15, 3) := by decide +kernel
theorem dX1_add_68 : decode cX1_add 68 = .ok (.return_, 1) := by decide +kernel
theorem dX1_minuteOf_0 : decode cX1_minuteOf 0 = .ok (.aload_n 0, 1) := by decide +kernel
theorem dX1_minuteOf_1 : decode cX1_minuteOf 1 = .ok (.getfield 11, 3) := by decide +kernel
theorem dX1_minuteOf_4 : decode cX1_minuteOf 4 = .ok (.iload_n 1, 1) := by decide +kernel
theorem dX1_minuteOf_5 : decode cX1_minuteOf 5 = .ok (.iaload, 1) := by decide +kernel
theorem dX1_minuteOf_6 : decode cX1_minuteOf 6 = .ok (.bipush 60, 2) := by decide +kernel
theorem dX1_minuteOf_8 : decode cX1_minuteOf 8 = .ok (.iload_n 1, 1) := by decide +kernel
theorem dX1_minuteOf_9 : decode cX1_minuteOf 9 = .ok (.imul, 1) := by decide +kernel
theorem dX1_minuteOf_10 : decode cX1_minuteOf 10 = .ok (.iadd, 1) := by decide +kernel
theorem dX1_minuteOf_11 : decode cX1_minuteOf 11 = .ok (.ireturn, 1) := by decide +kernel
theorem dX1_backsBy_0 : decode cX1_backsBy 0 = .ok (.iconst 0, 1) := by decide +kernel
theorem dX1_backsBy_1 : decode cX1_backsBy 1 = .ok (.istore_n 2, 1) := by decide +kernel
theorem dX1_backsBy_2 : decode cX1_backsBy 2 = .ok (.iload_n 2, 1) := by decide +kernel
theorem dX1_backsBy_3 : decode cX1_backsBy 3 = .ok (.aload_n 0, 1) := by decide +kernel
theorem dX1_backsBy_4 : decode cX1_backsBy 4 = .ok (.getfield 15, 3) := by decide +kernel
theorem dX1_backsBy_7 : decode cX1_backsBy 7 = .ok (.if_icmp .ge 18, 3) := by decide +kernel
theorem dX1_backsBy_10 : decode cX1_backsBy 10 = .ok (.aload_n 0, 1) := by decide +kernel
theorem dX1_backsBy_11 : decode cX1_backsBy 11 = .ok (.iload_n 2, 1) := by decide +kernel
theorem dX1_backsBy_12 : decode cX1_backsBy 12 = .ok (.invokevirtual 23, 3) := by decide +kernel
theorem dX1_backsBy_15 : decode cX1_backsBy 15 = .ok (.iload_n 1, 1) := by decide +kernel
theorem dX1_backsBy_16 : decode cX1_backsBy 16 = .ok (.if_icmp .gt 9, 3) := by decide +kernel
theorem dX1_backsBy_19 : decode cX1_backsBy 19 = .ok (.iinc 2 1, 3) := by decide +kernel
theorem dX1_backsBy_22 : decode cX1_backsBy 22 = .ok (.goto (-20), 3) := by decide +kernel
theorem dX1_backsBy_25 : decode cX1_backsBy 25 = .ok (.iload_n 2, 1) := by decide +kernel
theorem dX1_backsBy_26 : decode cX1_backsBy 26 = .ok (.ireturn, 1) := by decide +kernel
theorem dX1_showsAt_0 : decode cX1_showsAt 0 = .ok (.iload_n 1, 1) := by decide +kernel
theorem dX1_showsAt_1 : decode cX1_showsAt 1 = .ok (.bipush 60, 2) := by decide +kernel
theorem dX1_showsAt_3 : decode cX1_showsAt 3 = .ok (.aload_n 0, 1) := by decide +kernel
theorem dX1_showsAt_4 : decode cX1_showsAt 4 = .ok (.iload_n 1, 1) := by decide +kernel
theorem dX1_showsAt_5 : decode cX1_showsAt 5 = .ok (.invokevirtual 26, 3) := by decide +kernel
theorem dX1_showsAt_8 : decode cX1_showsAt 8 = .ok (.imul, 1) := by decide +kernel
theorem dX1_showsAt_9 : decode cX1_showsAt 9 = .ok (.isub, 1) := by decide +kernel
theorem dX1_showsAt_10 : decode cX1_showsAt 10 = .ok (.ireturn, 1) := by decide +kernel
theorem dX1_firstOf_0 : decode cX1_firstOf 0 = .ok (.iload_n 1, 1) := by decide +kernel
theorem dX1_firstOf_1 : decode cX1_firstOf 1 = .ok (.bipush 60, 2) := by decide +kernel
theorem dX1_firstOf_3 : decode cX1_firstOf 3 = .ok (.aload_n 0, 1) := by decide +kernel
theorem dX1_firstOf_4 : decode cX1_firstOf 4 = .ok (.iload_n 1, 1) := by decide +kernel
theorem dX1_firstOf_5 : decode cX1_firstOf 5 = .ok (.invokevirtual 29, 3) := by decide +kernel
theorem dX1_firstOf_8 : decode cX1_firstOf 8 = .ok (.imul, 1) := by decide +kernel
theorem dX1_firstOf_9 : decode cX1_firstOf 9 = .ok (.iadd, 1) := by decide +kernel
theorem dX1_firstOf_10 : decode cX1_firstOf 10 = .ok (.ireturn, 1) := by decide +kernel
theorem dX1_lastOf_0 : decode cX1_lastOf 0 = .ok (.iload_n 1, 1) := by decide +kernel
theorem dX1_lastOf_1 : decode cX1_lastOf 1 = .ok (.bipush 60, 2) := by decide +kernel
theorem dX1_lastOf_3 : decode cX1_lastOf 3 = .ok (.aload_n 0, 1) := by decide +kernel
theorem dX1_lastOf_4 : decode cX1_lastOf 4 = .ok (.iload_n 1, 1) := by decide +kernel
theorem dX1_lastOf_5 : decode cX1_lastOf 5 = .ok (.bipush 60, 2) := by decide +kernel
theorem dX1_lastOf_7 : decode cX1_lastOf 7 = .ok (.iadd, 1) := by decide +kernel
theorem dX1_lastOf_8 : decode cX1_lastOf 8 = .ok (.invokevirtual 29, 3) := by decide +kernel
theorem dX1_lastOf_11 : decode cX1_lastOf 11 = .ok (.imul, 1) := by decide +kernel
theorem dX1_lastOf_12 : decode cX1_lastOf 12 = .ok (.iadd, 1) := by decide +kernel
theorem dX1_lastOf_13 : decode cX1_lastOf 13 = .ok (.ireturn, 1) := by decide +kernel
theorem dX1_hasTwice_0 : decode cX1_hasTwice 0 = .ok (.aload_n 0, 1) := by decide +kernel
theorem dX1_hasTwice_1 : decode cX1_hasTwice 1 = .ok (.iload_n 1, 1) := by decide +kernel
theorem dX1_hasTwice_2 : decode cX1_hasTwice 2 = .ok (.bipush 60, 2) := by decide +kernel
theorem dX1_hasTwice_4 : decode cX1_hasTwice 4 = .ok (.iadd, 1) := by decide +kernel
theorem dX1_hasTwice_5 : decode cX1_hasTwice 5 = .ok (.invokevirtual 29, 3) := by decide +kernel
theorem dX1_hasTwice_8 : decode cX1_hasTwice 8 = .ok (.aload_n 0, 1) := by decide +kernel
theorem dX1_hasTwice_9 : decode cX1_hasTwice 9 = .ok (.iload_n 1, 1) := by decide +kernel
theorem dX1_hasTwice_10 : decode cX1_hasTwice 10 = .ok (.invokevirtual 29, 3) := by decide +kernel
theorem dX1_hasTwice_13 : decode cX1_hasTwice 13 = .ok (.if_icmp .le 7, 3) := by decide +kernel
theorem dX1_hasTwice_16 : decode cX1_hasTwice 16 = .ok (.iconst 1, 1) := by decide +kernel
theorem dX1_hasTwice_17 : decode cX1_hasTwice 17 = .ok (.goto 4, 3) := by decide +kernel
theorem dX1_hasTwice_20 : decode cX1_hasTwice 20 = .ok (.iconst 0, 1) := by decide +kernel
theorem dX1_hasTwice_21 : decode cX1_hasTwice 21 = .ok (.ireturn, 1) := by decide +kernel
theorem dX1_strokesUpTo_0 : decode cX1_strokesUpTo 0 = .ok (.iconst 0, 1) := by decide +kernel
theorem dX1_strokesUpTo_1 : decode cX1_strokesUpTo 1 = .ok (.istore_n 2, 1) := by decide +kernel
theorem dX1_strokesUpTo_2 : decode cX1_strokesUpTo 2 = .ok (.iload_n 2, 1) := by decide +kernel
theorem dX1_strokesUpTo_3 : decode cX1_strokesUpTo 3 = .ok (.aload_n 0, 1) := by decide +kernel
theorem dX1_strokesUpTo_4 : decode cX1_strokesUpTo 4 = .ok (.getfield 15, 3) := by decide +kernel
theorem dX1_strokesUpTo_7 : decode cX1_strokesUpTo 7 = .ok (.if_icmp .ge 19, 3) := by decide +kernel
theorem dX1_strokesUpTo_10 : decode cX1_strokesUpTo 10 = .ok (.aload_n 0, 1) := by decide +kernel
theorem dX1_strokesUpTo_11 : decode cX1_strokesUpTo 11 = .ok (.getfield 11, 3) := by decide +kernel
theorem dX1_strokesUpTo_14 : decode cX1_strokesUpTo 14 = .ok (.iload_n 2, 1) := by decide +kernel
theorem dX1_strokesUpTo_15 : decode cX1_strokesUpTo 15 = .ok (.iaload, 1) := by decide +kernel
theorem dX1_strokesUpTo_16 : decode cX1_strokesUpTo 16 = .ok (.iload_n 1, 1) := by decide +kernel
theorem dX1_strokesUpTo_17 : decode cX1_strokesUpTo 17 = .ok (.if_icmp .gt 9, 3) := by decide +kernel
theorem dX1_strokesUpTo_20 : decode cX1_strokesUpTo 20 = .ok (.iinc 2 1, 3) := by decide +kernel
theorem dX1_strokesUpTo_23 : decode cX1_strokesUpTo 23 = .ok (.goto (-21), 3) := by decide +kernel
theorem dX1_strokesUpTo_26 : decode cX1_strokesUpTo 26 = .ok (.iload_n 2, 1) := by decide +kernel
theorem dX1_strokesUpTo_27 : decode cX1_strokesUpTo 27 = .ok (.ireturn, 1) := by decide +kernel
theorem dX2_init_0 : decode cX2_init 0 = .ok (.aload_n 0, 1) := by decide +kernel
theorem dX2_init_1 : decode cX2_init 1 = .ok (.invokespecial 7, 3) := by decide +kernel
theorem dX2_init_4 : decode cX2_init 4 = .ok (.aload_n 0, 1) := by decide +kernel
theorem dX2_init_5 : decode cX2_init 5 = .ok (.bipush 36, 2) := by decide +kernel
theorem dX2_init_7 : decode cX2_init 7 = .ok (.newarray .int, 2) := by decide +kernel
theorem dX2_init_9 : decode cX2_init 9 = .ok (.putfield 15, 3) := by decide +kernel
theorem dX2_init_12 : decode cX2_init 12 = .ok (.aload_n 0, 1) := by decide +kernel
theorem dX2_init_13 : decode cX2_init 13 = .ok (.bipush 36, 2) := by decide +kernel
theorem dX2_init_15 : decode cX2_init 15 = .ok (.newarray .int, 2) := by decide +kernel
theorem dX2_init_17 : decode cX2_init 17 = .ok (.putfield 19, 3) := by decide +kernel
theorem dX2_init_20 : decode cX2_init 20 = .ok (.aload_n 0, 1) := by decide +kernel
theorem dX2_init_21 : decode cX2_init 21 = .ok (.bipush 36, 2) := by decide +kernel
theorem dX2_init_23 : decode cX2_init 23 = .ok (.newarray .int, 2) := by decide +kernel
theorem dX2_init_25 : decode cX2_init 25 = .ok (.putfield 22, 3) := by decide +kernel
theorem dX2_init_28 : decode cX2_init 28 = .ok (.aload_n 0, 1) := by decide +kernel
theorem dX2_init_29 : decode cX2_init 29 = .ok (.bipush 36, 2) := by decide +kernel
theorem dX2_init_31 : decode cX2_init 31 = .ok (.newarray .int, 2) := by decide +kernel
theorem dX2_init_33 : decode cX2_init 33 = .ok (.putfield 25, 3) := by decide +kernel
theorem dX2_init_36 : decode cX2_init 36 = .ok (.aload_n 0, 1) := by decide +kernel
theorem dX2_init_37 : decode cX2_init 37 = .ok (.iconst (-1), 1) := by decide +kernel
theorem dX2_init_38 : decode cX2_init 38 = .ok (.putfield 28, 3) := by decide +kernel
theorem dX2_init_41 : decode cX2_init 41 = .ok (.aload_n 0, 1) := by decide +kernel
theorem dX2_init_42 : decode cX2_init 42 = .ok (.iconst (-1), 1) := by decide +kernel
theorem dX2_init_43 : decode cX2_init 43 = .ok (.putfield 32, 3) := by decide +kernel
theorem dX2_init_46 : decode cX2_init 46 = .ok (.return_, 1) := by decide +kernel
theorem dX2_forget_0 : decode cX2_forget 0 = .ok (.aload_n 0, 1) := by decide +kernel
theorem dX2_forget_1 : decode cX2_forget 1 = .ok (.iconst (-1), 1) := by decide +kernel
theorem dX2_forget_2 : decode cX2_forget 2 = .ok (.putfield 28, 3) := by decide +kernel
theorem dX2_forget_5 : decode cX2_forget 5 = .ok (.return_, 1) := by decide +kernel
theorem dX2_prepare_0 : decode cX2_prepare 0 = .ok (.aload_n 0, 1) := by decide +kernel
theorem dX2_prepare_1 : decode cX2_prepare 1 = .ok (.getfield 28, 3) := by decide +kernel
theorem dX2_prepare_4 : decode cX2_prepare 4 = .ok (.iload_n 2, 1) := by decide +kernel
theorem dX2_prepare_5 : decode cX2_prepare 5 = .ok (.if_icmp .ne 12, 3) := by decide +kernel
theorem dX2_prepare_8 : decode cX2_prepare 8 = .ok (.aload_n 0, 1) := by decide +kernel
theorem dX2_prepare_9 : decode cX2_prepare 9 = .ok (.getfield 32, 3) := by decide +kernel
theorem dX2_prepare_12 : decode cX2_prepare 12 = .ok (.iload_n 3, 1) := by decide +kernel
theorem dX2_prepare_13 : decode cX2_prepare 13 = .ok (.if_icmp .ne 4, 3) := by decide +kernel
theorem dX2_prepare_16 : decode cX2_prepare 16 = .ok (.return_, 1) := by decide +kernel
theorem dX2_prepare_17 : decode cX2_prepare 17 = .ok (.aload_n 0, 1) := by decide +kernel
theorem dX2_prepare_18 : decode cX2_prepare 18 = .ok (.iload_n 2, 1) := by decide +kernel
theorem dX2_prepare_19 : decode cX2_prepare 19 = .ok (.putfield 28, 3) := by decide +kernel
theorem dX2_prepare_22 : decode cX2_prepare 22 = .ok (.aload_n 0, 1) := by decide +kernel
theorem dX2_prepare_23 : decode cX2_prepare 23 = .ok (.iload_n 3, 1) := by decide +kernel
theorem dX2_prepare_24 : decode cX2_prepare 24 = .ok (.putfield 32, 3) := by decide +kernel
theorem dX2_prepare_27 : decode cX2_prepare 27 = .ok (.aload_n 0, 1) := by decide +kernel
theorem dX2_prepare_28 : decode cX2_prepare 28 = .ok (.aload_n 1, 1) := by decide +kernel
theorem dX2_prepare_29 : decode cX2_prepare 29 = .ok (.iload_n 2, 1) := by decide +kernel
theorem dX2_prepare_30 : decode cX2_prepare 30 = .ok (.iload_n 3, 1) := by decide +kernel
theorem dX2_prepare_31 : decode cX2_prepare 31 = .ok (.invokevirtual 35, 3) := by decide +kernel
theorem dX2_prepare_34 : decode cX2_prepare 34 = .ok (.aload_n 0, 1) := by decide +kernel
theorem dX2_prepare_35 : decode cX2_prepare 35 = .ok (.aload_n 1, 1) := by decide +kernel
theorem dX2_prepare_36 : decode cX2_prepare 36 = .ok (.invokevirtual 39, 3) := by decide +kernel
theorem dX2_prepare_39 : decode cX2_prepare 39 = .ok (.aload_n 0, 1) := by decide +kernel
theorem dX2_prepare_40 : decode cX2_prepare 40 = .ok (.aload_n 1, 1) := by decide +kernel
theorem dX2_prepare_41 : decode cX2_prepare 41 = .ok (.invokevirtual 43, 3) := by decide +kernel
theorem dX2_prepare_44 : decode cX2_prepare 44 = .ok (.return_, 1) := by decide +kernel
theorem dX2_gather_0 : decode cX2_gather 0 = .ok (.aload_n 0, 1) := by decide +kernel
theorem dX2_gather_1 : decode cX2_gather 1 = .ok (.iconst 0, 1) := by decide +kernel
theorem dX2_gather_2 : decode cX2_gather 2 = .ok (.putfield 46, 3) := by decide +kernel
theorem dX2_gather_5 : decode cX2_gather 5 = .ok (.iconst 0, 1) := by decide +kernel
theorem dX2_gather_6 : decode cX2_gather 6 = .ok (.istore 4, 2) := by decide +kernel
theorem dX2_gather_8 : decode cX2_gather 8 = .ok (.iload 4, 2) := by decide +kernel
theorem dX2_gather_10 : decode cX2_gather 10 = .ok (.aload_n 1, 1) := by decide +kernel
theorem dX2_gather_11 : decode cX2_gather 11 = .ok (.getfield 49, 3) := by decide +kernel
theorem dX2_gather_14 : decode cX2_gather 14 = .ok (.if_icmp .ge 69, 3) := by decide +kernel
theorem dX2_gather_17 : decode cX2_gather 17 = .ok (.aload_n 1, 1) := by decide +kernel
theorem dX2_gather_18 : decode cX2_gather 18 = .ok (.getfield 52, 3) := by decide +kernel
theorem dX2_gather_21 : decode cX2_gather 21 = .ok (.iload 4, 2) := by decide +kernel
theorem dX2_gather_23 : decode cX2_gather 23 = .ok (.aaload, 1) := by decide +kernel
theorem dX2_gather_24 : decode cX2_gather 24 = .ok (.astore 5, 2) := by decide +kernel
theorem dX2_gather_26 : decode cX2_gather 26 = .ok (.iconst 0, 1) := by decide +kernel
theorem dX2_gather_27 : decode cX2_gather 27 = .ok (.istore 6, 2) := by decide +kernel
theorem dX2_gather_29 : decode cX2_gather 29 = .ok (.iload 6, 2) := by decide +kernel
theorem dX2_gather_31 : decode cX2_gather 31 = .ok (.aload 5, 2) := by decide +kernel
theorem dX2_gather_33 : decode cX2_gather 33 = .ok (.getfield 55, 3) := by decide +kernel
theorem dX2_gather_36 : decode cX2_gather 36 = .ok (.if_icmp .ge 41, 3) := by decide +kernel
theorem dX2_gather_39 : decode cX2_gather 39 = .ok (.aload 5, 2) := by decide +kernel
theorem dX2_gather_41 : decode cX2_gather 41 = .ok (.getfield 56, 3) := by decide +kernel
theorem dX2_gather_44 : decode cX2_gather 44 = .ok (.iload 6, 2) := by decide +kernel
theorem dX2_gather_46 : decode cX2_gather 46 = .ok (.iaload, 1) := by decide +kernel
theorem dX2_gather_47 : decode cX2_gather 47 = .ok (.invokestatic 59, 3) := by decide +kernel
theorem dX2_gather_50 : decode cX2_gather 50 = .ok (.iload_n 2, 1) := by decide +kernel
theorem dX2_gather_51 : decode cX2_gather 51 = .ok (.iload_n 3, 1) := by decide +kernel
theorem dX2_gather_52 : decode cX2_gather 52 = .ok (.invokestatic 63, 3) := by decide +kernel
theorem dX2_gather_55 : decode cX2_gather 55 = .ok (.ifCond .eq 16, 3) := by decide +kernel
theorem dX2_gather_58 : decode cX2_gather 58 = .ok (.aload_n 0, 1) := by decide +kernel
theorem dX2_gather_59 : decode cX2_gather 59 = .ok (.aload 5, 2) := by decide +kernel
theorem dX2_gather_61 : decode cX2_gather 61 = .ok (.iload 6, 2) := by decide +kernel
theorem dX2_gather_63 : decode cX2_gather 63 = .ok (.invokevirtual 67, 3) := by decide +kernel
theorem dX2_gather_66 : decode cX2_gather 66 = .ok (.iload 4, 2) := by decide +kernel
theorem dX2_gather_68 : decode cX2_gather 68 = .ok (.invokevirtual 70, 3) := by decide +kernel
theorem dX2_gather_71 : decode cX2_gather 71 = .ok (.iinc 6 1, 3) := by decide +kernel
theorem dX2_gather_74 : decode cX2_gather 74 = .ok (.goto (-45), 3) := by decide +kernel
theorem dX2_gather_77 : decode cX2_gather 77 = .ok (.iinc 4 1, 3) := by decide +kernel
theorem dX2_gather_80 : decode cX2_gather 80 = .ok (.goto (-72), 3) := by decide +kernel
theorem dX2_gather_83 : decode cX2_gather 83 = .ok (.return_, 1) := by decide +kernel
theorem dX2_insert_0 : decode cX2_insert 0 = .ok (.aload_n 0, 1) := by decide +kernel
theorem dX2_insert_1 : decode cX2_insert 1 = .ok (.getfield 46, 3) := by decide +kernel
theorem dX2_insert_4 : decode cX2_insert 4 = .ok (.bipush 36, 2) := by decide +kernel
theorem dX2_insert_6 : decode cX2_insert 6 = .ok (.if_icmp .lt 4, 3) := by decide +kernel
theorem dX2_insert_9 : decode cX2_insert 9 = .ok (.return_, 1) := by decide +kernel
theorem dX2_insert_10 : decode cX2_insert 10 = .ok (.aload_n 0, 1) := by decide +kernel
theorem dX2_insert_11 : decode cX2_insert 11 = .ok (.getfield 46, 3) := by decide +kernel
theorem dX2_insert_14 : decode cX2_insert 14 = .ok (.istore_n 3, 1) := by decide +kernel
theorem dX2_insert_15 : decode cX2_insert 15 = .ok (.iload_n 3, 1) := by decide +kernel
theorem dX2_insert_16 : decode cX2_insert 16 = .ok (.ifCond .le 49, 3) := by decide +kernel
theorem dX2_insert_19 : decode cX2_insert 19 = .ok (.aload_n 0, 1) := by decide +kernel
theorem dX2_insert_20 : decode cX2_insert 20 = .ok (.getfield 15, 3) := by decide +kernel
theorem dX2_insert_23 : decode cX2_insert 23 = .ok (.iload_n 3, 1) := by decide +kernel
theorem dX2_insert_24 : decode cX2_insert 24 = .ok (.iconst 1, 1) := by decide +kernel
theorem dX2_insert_25 : decode cX2_insert 25 = .ok (.isub, 1) := by decide +kernel
theorem dX2_insert_26 : decode cX2_insert 26 = .ok (.iaload, 1) := by decide +kernel
theorem dX2_insert_27 : decode cX2_insert 27 = .ok (.iload_n 1, 1) := by decide +kernel
theorem dX2_insert_28 : decode cX2_insert 28 = .ok (.if_icmp .le 37, 3) := by decide +kernel
theorem dX2_insert_31 : decode cX2_insert 31 = .ok (.aload_n 0, 1) := by decide +kernel
theorem dX2_insert_32 : decode cX2_insert 32 = .ok (.getfield 15, 3) := by decide +kernel
theorem dX2_insert_35 : decode cX2_insert 35 = .ok (.iload_n 3, 1) := by decide +kernel
theorem dX2_insert_36 : decode cX2_insert 36 = .ok (.aload_n 0, 1) := by decide +kernel
theorem dX2_insert_37 : decode cX2_insert 37 = .ok (.getfield 15, 3) := by decide +kernel
theorem dX2_insert_40 : decode cX2_insert 40 = .ok (.iload_n 3, 1) := by decide +kernel
theorem dX2_insert_41 : decode cX2_insert 41 = .ok (.iconst 1, 1) := by decide +kernel
theorem dX2_insert_42 : decode cX2_insert 42 = .ok (.isub, 1) := by decide +kernel
theorem dX2_insert_43 : decode cX2_insert 43 = .ok (.iaload, 1) := by decide +kernel
theorem dX2_insert_44 : decode cX2_insert 44 = .ok (.iastore, 1) := by decide +kernel
theorem dX2_insert_45 : decode cX2_insert 45 = .ok (.aload_n 0, 1) := by decide +kernel
theorem dX2_insert_46 : decode cX2_insert 46 = .ok (.getfield 19, 3) := by decide +kernel
theorem dX2_insert_49 : decode cX2_insert 49 = .ok (.iload_n 3, 1) := by decide +kernel
theorem dX2_insert_50 : decode cX2_insert 50 = .ok (.aload_n 0, 1) := by decide +kernel
theorem dX2_insert_51 : decode cX2_insert 51 = .ok (.getfield 19, 3) := by decide +kernel
theorem dX2_insert_54 : decode cX2_insert 54 = .ok (.iload_n 3, 1) := by decide +kernel
theorem dX2_insert_55 : decode cX2_insert 55 = .ok (.iconst 1, 1) := by decide +kernel
theorem dX2_insert_56 : decode cX2_insert 56 = .ok (.isub, 1) := by decide +kernel
theorem dX2_insert_57 : decode cX2_insert 57 = .ok (.iaload, 1) := by decide +kernel
theorem dX2_insert_58 : decode cX2_insert 58 = .ok (.iastore, 1) := by decide +kernel
theorem dX2_insert_59 : decode cX2_insert 59 = .ok (.iinc 3 (-1), 3) := by decide +kernel
theorem dX2_insert_62 : decode cX2_insert 62 = .ok (.goto (-47), 3) := by decide +kernel
theorem dX2_insert_65 : decode cX2_insert 65 = .ok (.aload_n 0, 1) := by decide +kernel
theorem dX2_insert_66 : decode cX2_insert 66 = .ok (.getfield 15, 3) := by decide +kernel
theorem dX2_insert_69 : decode cX2_insert 69 = .ok (.iload_n 3, 1) := by decide +kernel
theorem dX2_insert_70 : decode cX2_insert 70 = .ok (.iload_n 1, 1) := by decide +kernel
theorem dX2_insert_71 : decode cX2_insert 71 = .ok (.iastore, 1) := by decide +kernel
theorem dX2_insert_72 : decode cX2_insert 72 = .ok (.aload_n 0, 1) := by decide +kernel
theorem dX2_insert_73 : decode cX2_insert 73 = .ok (.getfield 19, 3) := by decide +kernel
theorem dX2_insert_76 : decode cX2_insert 76 = .ok (.iload_n 3, 1) := by decide +kernel
theorem dX2_insert_77 : decode cX2_insert 77 = .ok (.iload_n 2, 1) := by decide +kernel
theorem dX2_insert_78 : decode cX2_insert 78 = .ok (.iastore, 1) := by decide +kernel
theorem dX2_insert_79 : decode cX2_insert 79 = .ok (.aload_n 0, 1) := by decide +kernel
theorem dX2_insert_80 : decode cX2_insert 80 = .ok (.dup, 1) := by decide +kernel
theorem dX2_insert_81 : decode cX2_insert 81 = .ok (.getfield 46, 3) := by decide +kernel
theorem dX2_insert_84 : decode cX2_insert 84 = .ok (.iconst 1, 1) := by decide +kernel
theorem dX2_insert_85 : decode cX2_insert 85 = .ok (.iadd, 1) := by decide +kernel
theorem dX2_insert_86 : decode cX2_insert 86 = .ok (.putfield 46, 3) := by decide +kernel
theorem dX2_insert_89 : decode cX2_insert 89 = .ok (.return_, 1) := by decide +kernel
theorem dX2_measureChains_0 : decode cX2_measureChains 0 = .ok (.aload_n 0, 1) := by decide +kernel
theorem dX2_measureChains_1 : decode cX2_measureChains 1 = .ok (.iconst 0, 1) := by decide +kernel
theorem dX2_measureChains_2 : decode cX2_measureChains 2 = .ok (.putfield 74, 3) := by decide +kernel
theorem dX2_measureChains_5 : decode cX2_measureChains 5 = .ok (.aload_n 0, 1) := by decide +kernel
theorem dX2_measureChains_6 : decode cX2_measureChains 6 = .ok (.getfield 46, 3) := by decide +kernel
theorem dX2_measureChains_9 : decode cX2_measureChains 9 = .ok (.iconst 1, 1) := by decide +kernel
theorem dX2_measureChains_10 : decode cX2_measureChains 10 = .ok (.isub, 1) := by decide +kernel
theorem dX2_measureChains_11 : decode cX2_measureChains 11 = .ok (.istore_n 2, 1) := by decide +kernel
theorem dX2_measureChains_12 : decode cX2_measureChains 12 = .ok (.iload_n 2, 1) := by decide +kernel
theorem dX2_measureChains_13 : decode cX2_measureChains 13 = .ok (.ifCond .lt 90, 3) := by decide +kernel
theorem dX2_measureChains_16 : decode cX2_measureChains 16 = .ok (.aload_n 0, 1) := by decide +kernel
theorem dX2_measureChains_17 : decode cX2_measureChains 17 = .ok (.getfield 22, 3) := by decide +kernel
theorem dX2_measureChains_20 : decode cX2_measureChains 20 = .ok (.iload_n 2, 1) := by decide +kernel
theorem dX2_measureChains_21 : decode cX2_measureChains 21 = .ok (.iconst 1, 1) := by decide +kernel
theorem dX2_measureChains_22 : decode cX2_measureChains 22 = .ok (.iastore, 1) := by decide +kernel
theorem dX2_measureChains_23 : decode cX2_measureChains 23 = .ok (.iload_n 2, 1) := by decide +kernel
theorem dX2_measureChains_24 : decode cX2_measureChains 24 = .ok (.iconst 1, 1) := by decide +kernel
theorem dX2_measureChains_25 : decode cX2_measureChains 25 = .ok (.iadd, 1) := by decide +kernel
theorem dX2_measureChains_26 : decode cX2_measureChains 26 = .ok (.istore_n 3, 1) := by decide +kernel
theorem dX2_measureChains_27 : decode cX2_measureChains 27 = .ok (.iload_n 3, 1) := by decide +kernel
theorem dX2_measureChains_28 : decode cX2_measureChains 28 = .ok (.aload_n 0, 1) := by decide +kernel
theorem dX2_measureChains_29 : decode cX2_measureChains 29 = .ok (.getfield 46, 3) := by decide +kernel
theorem dX2_measureChains_32 : decode cX2_measureChains 32 = .ok (.if_icmp .ge 48, 3) := by decide +kernel
theorem dX2_measureChains_35 : decode cX2_measureChains 35 = .ok (.aload_n 0, 1) := by decide +kernel
theorem dX2_measureChains_36 : decode cX2_measureChains 36 = .ok (.getfield 22, 3) := by decide +kernel
theorem dX2_measureChains_39 : decode cX2_measureChains 39 = .ok (.iload_n 3, 1) := by decide +kernel
theorem dX2_measureChains_40 : decode cX2_measureChains 40 = .ok (.iaload, 1) := by decide +kernel
theorem dX2_measureChains_41 : decode cX2_measureChains 41 = .ok (.aload_n 0, 1) := by decide +kernel
theorem dX2_measureChains_42 : decode cX2_measureChains 42 = .ok (.getfield 22, 3) := by decide +kernel
theorem dX2_measureChains_45 : decode cX2_measureChains 45 = .ok (.iload_n 2, 1) := by decide +kernel
theorem dX2_measureChains_46 : decode cX2_measureChains 46 = .ok (.iaload, 1) := by decide +kernel
theorem dX2_measureChains_47 : decode cX2_measureChains 47 = .ok (.if_icmp .lt 27, 3) := by decide +kernel
theorem dX2_measureChains_50 : decode cX2_measureChains 50 = .ok (.aload_n 0, 1) := by decide +kernel
theorem dX2_measureChains_51 : decode cX2_measureChains 51 = .ok (.aload_n 1, 1) := by decide +kernel
theorem dX2_measureChains_52 : decode cX2_measureChains 52 = .ok (.iload_n 2, 1) := by decide +kernel
theorem dX2_measureChains_53 : decode cX2_measureChains 53 = .ok (.iload_n 3, 1) := by decide +kernel
theorem dX2_measureChains_54 : decode cX2_measureChains 54 = .ok (.invokevirtual 77, 3) := by decide +kernel
theorem dX2_measureChains_57 : decode cX2_measureChains 57 = .ok (.ifCond .eq 17, 3) := by decide +kernel
theorem dX2_measureChains_60 : decode cX2_measureChains 60 = .ok (.aload_n 0, 1) := by decide +kernel
theorem dX2_measureChains_61 : decode cX2_measureChains 61 = .ok (.getfield 22, 3) := by decide +kernel
theorem dX2_measureChains_64 : decode cX2_measureChains 64 = .ok (.iload_n 2, 1) := by decide +kernel
theorem dX2_measureChains_65 : decode cX2_measureChains 65 = .ok (.aload_n 0, 1) := by decide +kernel
theorem dX2_measureChains_66 : decode cX2_measureChains 66 = .ok (.getfield 22, 3) := by decide +kernel
theorem dX2_measureChains_69 : decode cX2_measureChains 69 = .ok (.iload_n 3, 1) := by decide +kernel
theorem dX2_measureChains_70 : decode cX2_measureChains 70 = .ok (.iaload, 1) := by decide +kernel
theorem dX2_measureChains_71 : decode cX2_measureChains 71 = .ok (.iconst 1, 1) := by decide +kernel
theorem dX2_measureChains_72 : decode cX2_measureChains 72 = .ok (.iadd, 1) := by decide +kernel
theorem dX2_measureChains_73 : decode cX2_measureChains 73 = .ok (.iastore, 1) := by decide +kernel
theorem dX2_measureChains_74 : decode cX2_measureChains 74 = .ok (.iinc 3 1, 3) := by decide +kernel
theorem dX2_measureChains_77 : decode cX2_measureChains 77 = .ok (.goto (-50), 3) := by decide +kernel
theorem dX2_measureChains_80 : decode cX2_measureChains 80 = .ok (.aload_n 0, 1) := by decide +kernel
theorem dX2_measureChains_81 : decode cX2_measureChains 81 = .ok (.aload_n 0, 1) := by decide +kernel
theorem dX2_measureChains_82 : decode cX2_measureChains 82 = .ok (.getfield 74, 3) := by decide +kernel
theorem dX2_measureChains_85 : decode cX2_measureChains 85 = .ok (.aload_n 0, 1) := by decide +kernel
theorem dX2_measureChains_86 : decode cX2_measureChains 86 = .ok (.getfield 22, 3) := by decide +kernel
theorem dX2_measureChains_89 : decode cX2_measureChains 89 = .ok (.iload_n 2, 1) := by decide +kernel
theorem dX2_measureChains_90 : decode cX2_measureChains 90 = .ok (.iaload, 1) := by decide +kernel
theorem dX2_measureChains_91 : decode cX2_measureChains 91 = .ok (.invokestatic 81, 3) := by decide +kernel
theorem dX2_measureChains_94 : decode cX2_measureChains 94 = .ok (.putfield 74, 3) := by decide +kernel
theorem dX2_measureChains_97 : decode cX2_measureChains 97 = .ok (.iinc 2 (-1), 3) := by decide +kernel
theorem dX2_measureChains_100 : decode cX2_measureChains 100 = .ok (.goto (-88), 3) := by decide +kernel
theorem dX2_measureChains_103 : decode cX2_measureChains 103 = .ok (.return_, 1) := by decide +kernel
theorem dX2_layRow_0 : decode cX2_layRow 0 = .ok (.iconst 0, 1) := by decide +kernel
theorem dX2_layRow_1 : decode cX2_layRow 1 = .ok (.istore_n 2, 1) := by decide +kernel
theorem dX2_layRow_2 : decode cX2_layRow 2 = .ok (.iconst 0, 1) := by decide +kernel
theorem dX2_layRow_3 : decode cX2_layRow 3 = .ok (.istore_n 3, 1) := by decide +kernel
theorem dX2_layRow_4 : decode cX2_layRow 4 = .ok (.iload_n 3, 1) := by decide +kernel
theorem dX2_layRow_5 : decode cX2_layRow 5 = .ok (.aload_n 0, 1) := by decide +kernel
theorem dX2_layRow_6 : decode cX2_layRow 6 = .ok (.getfield 46, 3) := by decide +kernel
theorem dX2_layRow_9 : decode cX2_layRow 9 = .ok (.if_icmp .ge 63, 3) := by decide +kernel
theorem dX2_layRow_12 : decode cX2_layRow 12 = .ok (.iload_n 2, 1) := by decide +kernel
theorem dX2_layRow_13 : decode cX2_layRow 13 = .ok (.aload_n 0, 1) := by decide +kernel
theorem dX2_layRow_14 : decode cX2_layRow 14 = .ok (.getfield 74, 3) := by decide +kernel
theorem dX2_layRow_17 : decode cX2_layRow 17 = .ok (.if_icmp .ge 55, 3) := by decide +kernel
theorem dX2_layRow_20 : decode cX2_layRow 20 = .ok (.aload_n 0, 1) := by decide +kernel
theorem dX2_layRow_21 : decode cX2_layRow 21 = .ok (.getfield 22, 3) := by decide +kernel
theorem dX2_layRow_24 : decode cX2_layRow 24 = .ok (.iload_n 3, 1) := by decide +kernel
theorem dX2_layRow_25 : decode cX2_layRow 25 = .ok (.iaload, 1) := by decide +kernel
theorem dX2_layRow_26 : decode cX2_layRow 26 = .ok (.aload_n 0, 1) := by decide +kernel
theorem dX2_layRow_27 : decode cX2_layRow 27 = .ok (.getfield 74, 3) := by decide +kernel
theorem dX2_layRow_30 : decode cX2_layRow 30 = .ok (.iload_n 2, 1) := by decide +kernel
theorem dX2_layRow_31 : decode cX2_layRow 31 = .ok (.isub, 1) := by decide +kernel
theorem dX2_layRow_32 : decode cX2_layRow 32 = .ok (.if_icmp .ne 34, 3) := by decide +kernel
theorem dX2_layRow_35 : decode cX2_layRow 35 = .ok (.iload_n 2, 1) := by decide +kernel
theorem dX2_layRow_36 : decode cX2_layRow 36 = .ok (.ifCond .eq 20, 3) := by decide +kernel
theorem dX2_layRow_39 : decode cX2_layRow 39 = .ok (.aload_n 0, 1) := by decide +kernel
theorem dX2_layRow_40 : decode cX2_layRow 40 = .ok (.aload_n 1, 1) := by decide +kernel
theorem dX2_layRow_41 : decode cX2_layRow 41 = .ok (.aload_n 0, 1) := by decide +kernel
theorem dX2_layRow_42 : decode cX2_layRow 42 = .ok (.getfield 25, 3) := by decide +kernel
theorem dX2_layRow_45 : decode cX2_layRow 45 = .ok (.iload_n 2, 1) := by decide +kernel
theorem dX2_layRow_46 : decode cX2_layRow 46 = .ok (.iconst 1, 1) := by decide +kernel
theorem dX2_layRow_47 : decode cX2_layRow 47 = .ok (.isub, 1) := by decide +kernel
theorem dX2_layRow_48 : decode cX2_layRow 48 = .ok (.iaload, 1) := by decide +kernel
theorem dX2_layRow_49 : decode cX2_layRow 49 = .ok (.iload_n 3, 1) := by decide +kernel
theorem dX2_layRow_50 : decode cX2_layRow 50 = .ok (.invokevirtual 77, 3) := by decide +kernel
theorem dX2_layRow_53 : decode cX2_layRow 53 = .ok (.ifCond .eq 13, 3) := by decide +kernel
theorem dX2_layRow_56 : decode cX2_layRow 56 = .ok (.aload_n 0, 1) := by decide +kernel
theorem dX2_layRow_57 : decode cX2_layRow 57 = .ok (.getfield 25, 3) := by decide +kernel
theorem dX2_layRow_60 : decode cX2_layRow 60 = .ok (.iload_n 2, 1) := by decide +kernel
theorem dX2_layRow_61 : decode cX2_layRow 61 = .ok (.iload_n 3, 1) := by decide +kernel
theorem dX2_layRow_62 : decode cX2_layRow 62 = .ok (.iastore, 1) := by decide +kernel
theorem dX2_layRow_63 : decode cX2_layRow 63 = .ok (.iinc 2 1, 3) := by decide +kernel
theorem dX2_layRow_66 : decode cX2_layRow 66 = .ok (.iinc 3 1, 3) := by decide +kernel
theorem dX2_layRow_69 : decode cX2_layRow 69 = .ok (.goto (-65), 3) := by decide +kernel
theorem dX2_layRow_72 : decode cX2_layRow 72 = .ok (.return_, 1) := by decide +kernel
theorem dX2_canFollow_0 : decode cX2_canFollow 0 = .ok (.aload_n 1, 1) := by decide +kernel
theorem dX2_canFollow_1 : decode cX2_canFollow 1 = .ok (.aload_n 0, 1) := by decide +kernel
theorem dX2_canFollow_2 : decode cX2_canFollow 2 = .ok (.getfield 19, 3) := by decide +kernel
theorem dX2_canFollow_5 : decode cX2_canFollow 5 = .ok (.iload_n 2, 1) := by decide +kernel
theorem dX2_canFollow_6 : decode cX2_canFollow 6 = .ok (.iaload, 1) := by decide +kernel
theorem dX2_canFollow_7 : decode cX2_canFollow 7 = .ok (.aload_n 0, 1) := by decide +kernel
theorem dX2_canFollow_8 : decode cX2_canFollow 8 = .ok (.getfield 19, 3) := by decide +kernel
theorem dX2_canFollow_11 : decode cX2_canFollow 11 = .ok (.iload_n 3, 1) := by decide +kernel
theorem dX2_canFollow_12 : decode cX2_canFollow 12 = .ok (.iaload, 1) := by decide +kernel
theorem dX2_canFollow_13 : decode cX2_canFollow 13 = .ok (.invokevirtual 87, 3) := by decide +kernel
theorem dX2_canFollow_16 : decode cX2_canFollow 16 = .ok (.istore 4, 2) := by decide +kernel
theorem dX2_canFollow_18 : decode cX2_canFollow 18 = .ok (.iload 4, 2) := by decide +kernel
theorem dX2_canFollow_20 : decode cX2_canFollow 20 = .ok (.iconst (-1), 1) := by decide +kernel
theorem dX2_canFollow_21 : decode cX2_canFollow 21 = .ok (.if_icmp .eq 31, 3) := by decide +kernel
theorem dX2_canFollow_24 : decode cX2_canFollow 24 = .ok (.aload_n 0, 1) := by decide +kernel
theorem dX2_canFollow_25 : decode cX2_canFollow 25 = .ok (.getfield 15, 3) := by decide +kernel
theorem dX2_canFollow_28 : decode cX2_canFollow 28 = .ok (.iload_n 2, 1) := by decide +kernel
theorem dX2_canFollow_29 : decode cX2_canFollow 29 = .ok (.iaload, 1) := by decide +kernel
theorem dX2_canFollow_30 : decode cX2_canFollow 30 = .ok (.bipush 60, 2) := by decide +kernel
theorem dX2_canFollow_32 : decode cX2_canFollow 32 = .ok (.iadd, 1) := by decide +kernel
theorem dX2_canFollow_33 : decode cX2_canFollow 33 = .ok (.iload 4, 2) := by decide +kernel
theorem dX2_canFollow_35 : decode cX2_canFollow 35 = .ok (.iadd, 1) := by decide +kernel
theorem dX2_canFollow_36 : decode cX2_canFollow 36 = .ok (.aload_n 0, 1) := by decide +kernel
theorem dX2_canFollow_37 : decode cX2_canFollow 37 = .ok (.getfield 15, 3) := by decide +kernel
theorem dX2_canFollow_40 : decode cX2_canFollow 40 = .ok (.iload_n 3, 1) := by decide +kernel
theorem dX2_canFollow_41 : decode cX2_canFollow 41 = .ok (.iaload, 1) := by decide +kernel
theorem dX2_canFollow_42 : decode cX2_canFollow 42 = .ok (.bipush 60, 2) := by decide +kernel
theorem dX2_canFollow_44 : decode cX2_canFollow 44 = .ok (.isub, 1) := by decide +kernel
theorem dX2_canFollow_45 : decode cX2_canFollow 45 = .ok (.if_icmp .gt 7, 3) := by decide +kernel
theorem dX2_canFollow_48 : decode cX2_canFollow 48 = .ok (.iconst 1, 1) := by decide +kernel
theorem dX2_canFollow_49 : decode cX2_canFollow 49 = .ok (.goto 4, 3) := by decide +kernel
theorem dX2_canFollow_52 : decode cX2_canFollow 52 = .ok (.iconst 0, 1) := by decide +kernel
theorem dX2_canFollow_53 : decode cX2_canFollow 53 = .ok (.ireturn, 1) := by decide +kernel
theorem dX3_init_0 : decode cX3_init 0 = .ok (.aload_n 0, 1) := by decide +kernel
theorem dX3_init_1 : decode cX3_init 1 = .ok (.invokespecial 5, 3) := by decide +kernel
theorem dX3_init_4 : decode cX3_init 4 = .ok (.aload_n 0, 1) := by decide +kernel
theorem dX3_init_5 : decode cX3_init 5 = .ok (.bipush 16, 2) := by decide +kernel
theorem dX3_init_7 : decode cX3_init 7 = .ok (.newarray .int, 2) := by decide +kernel
theorem dX3_init_9 : decode cX3_init 9 = .ok (.putfield 11, 3) := by decide +kernel
theorem dX3_init_12 : decode cX3_init 12 = .ok (.aload_n 0, 1) := by decide +kernel
theorem dX3_init_13 : decode cX3_init 13 = .ok (.bipush 16, 2) := by decide +kernel
theorem dX3_init_15 : decode cX3_init 15 = .ok (.newarray .int, 2) := by decide +kernel
theorem dX3_init_17 : decode cX3_init 17 = .ok (.putfield 17, 3) := by decide +kernel
theorem dX3_init_20 : decode cX3_init 20 = .ok (.aload_n 0, 1) := by decide +kernel
theorem dX3_init_21 : decode cX3_init 21 = .ok (.sipush 256, 3) := by decide +kernel
theorem dX3_init_24 : decode cX3_init 24 = .ok (.newarray .int, 2) := by decide +kernel
theorem dX3_init_26 : decode cX3_init 26 = .ok (.putfield 20, 3) := by decide +kernel
theorem dX3_init_29 : decode cX3_init 29 = .ok (.aload_n 0, 1) := by decide +kernel
theorem dX3_init_30 : decode cX3_init 30 = .ok (.bipush 8, 2) := by decide +kernel
theorem dX3_init_32 : decode cX3_init 32 = .ok (.newarray .int, 2) := by decide +kernel
theorem dX3_init_34 : decode cX3_init 34 = .ok (.putfield 23, 3) := by decide +kernel
theorem dX3_init_37 : decode cX3_init 37 = .ok (.aload_n 0, 1) := by decide +kernel
theorem dX3_init_38 : decode cX3_init 38 = .ok (.bipush 8, 2) := by decide +kernel
theorem dX3_init_40 : decode cX3_init 40 = .ok (.newarray .int, 2) := by decide +kernel
theorem dX3_init_42 : decode cX3_init 42 = .ok (.putfield 26, 3) := by decide +kernel
theorem dX3_init_45 : decode cX3_init 45 = .ok (.aload_n 0, 1) := by decide +kernel
theorem dX3_init_46 : decode cX3_init 46 = .ok (.iconst (-1), 1) := by decide +kernel
theorem dX3_init_47 : decode cX3_init 47 = .ok (.putfield 29, 3) := by decide +kernel
theorem dX3_init_50 : decode cX3_init 50 = .ok (.return_, 1) := by decide +kernel
theorem dX3_forget_0 : decode cX3_forget 0 = .ok (.aload_n 0, 1) := by decide +kernel
theorem dX3_forget_1 : decode cX3_forget 1 = .ok (.iconst (-1), 1) := by decide +kernel
theorem dX3_forget_2 : decode cX3_forget 2 = .ok (.putfield 29, 3) := by decide +kernel
theorem dX3_forget_5 : decode cX3_forget 5 = .ok (.return_, 1) := by decide +kernel
theorem dX3_prepare_0 : decode cX3_prepare 0 = .ok (.aload_n 0, 1) := by decide +kernel
theorem dX3_prepare_1 : decode cX3_prepare 1 = .ok (.getfield 29, 3) := by decide +kernel
theorem dX3_prepare_4 : decode cX3_prepare 4 = .ok (.iload_n 2, 1) := by decide +kernel
theorem dX3_prepare_5 : decode cX3_prepare 5 = .ok (.if_icmp .ne 4, 3) := by decide +kernel
theorem dX3_prepare_8 : decode cX3_prepare 8 = .ok (.return_, 1) := by decide +kernel
theorem dX3_prepare_9 : decode cX3_prepare 9 = .ok (.aload_n 0, 1) := by decide +kernel
theorem dX3_prepare_10 : decode cX3_prepare 10 = .ok (.iload_n 2, 1) := by decide +kernel
theorem dX3_prepare_11 : decode cX3_prepare 11 = .ok (.putfield 29, 3) := by decide +kernel
theorem dX3_prepare_14 : decode cX3_prepare 14 = .ok (.aload_n 1, 1) := by decide +kernel
theorem dX3_prepare_15 : decode cX3_prepare 15 = .ok (.getfield 33, 3) := by decide +kernel
theorem dX3_prepare_18 : decode cX3_prepare 18 = .ok (.iconst 0, 1) := by decide +kernel
theorem dX3_prepare_19 : decode cX3_prepare 19 = .ok (.aaload, 1) := by decide +kernel
theorem dX3_prepare_20 : decode cX3_prepare 20 = .ok (.iload_n 2, 1) := by decide +kernel
theorem dX3_prepare_21 : decode cX3_prepare 21 = .ok (.invokevirtual 37, 3) := by decide +kernel
theorem dX3_prepare_24 : decode cX3_prepare 24 = .ok (.istore_n 3, 1) := by decide +kernel
theorem dX3_prepare_25 : decode cX3_prepare 25 = .ok (.aload_n 0, 1) := by decide +kernel
theorem dX3_prepare_26 : decode cX3_prepare 26 = .ok (.aload_n 1, 1) := by decide +kernel
theorem dX3_prepare_27 : decode cX3_prepare 27 = .ok (.iload_n 2, 1) := by decide +kernel
theorem dX3_prepare_28 : decode cX3_prepare 28 = .ok (.iconst (-1), 1) := by decide +kernel
theorem dX3_prepare_29 : decode cX3_prepare 29 = .ok (.invokevirtual 43, 3) := by decide +kernel
theorem dX3_prepare_32 : decode cX3_prepare 32 = .ok (.aload_n 0, 1) := by decide +kernel
theorem dX3_prepare_33 : decode cX3_prepare 33 = .ok (.aload_n 0, 1) := by decide +kernel
theorem dX3_prepare_34 : decode cX3_prepare 34 = .ok (.getfield 47, 3) := by decide +kernel
theorem dX3_prepare_37 : decode cX3_prepare 37 = .ok (.putfield 50, 3) := by decide +kernel
theorem dX3_prepare_40 : decode cX3_prepare 40 = .ok (.iload_n 3, 1) := by decide +kernel
theorem dX3_prepare_41 : decode cX3_prepare 41 = .ok (.iconst (-1), 1) := by decide +kernel
theorem dX3_prepare_42 : decode cX3_prepare 42 = .ok (.if_icmp .eq 16, 3) := by decide +kernel
theorem dX3_prepare_45 : decode cX3_prepare 45 = .ok (.aload_n 0, 1) := by decide +kernel
theorem dX3_prepare_46 : decode cX3_prepare 46 = .ok (.aload_n 1, 1) := by decide +kernel
theorem dX3_prepare_47 : decode cX3_prepare 47 = .ok (.iload_n 2, 1) := by decide +kernel
theorem dX3_prepare_48 : decode cX3_prepare 48 = .ok (.iload_n 3, 1) := by decide +kernel
theorem dX3_prepare_49 : decode cX3_prepare 49 = .ok (.iload_n 2, 1) := by decide +kernel
theorem dX3_prepare_50 : decode cX3_prepare 50 = .ok (.sipush 1440, 3) := by decide +kernel
theorem dX3_prepare_53 : decode cX3_prepare 53 = .ok (.imul, 1) := by decide +kernel
theorem dX3_prepare_54 : decode cX3_prepare 54 = .ok (.isub, 1) := by decide +kernel
theorem dX3_prepare_55 : decode cX3_prepare 55 = .ok (.invokevirtual 43, 3) := by decide +kernel
theorem dX3_prepare_58 : decode cX3_prepare 58 = .ok (.aload_n 0, 1) := by decide +kernel
theorem dX3_prepare_59 : decode cX3_prepare 59 = .ok (.aload_n 1, 1) := by decide +kernel
theorem dX3_prepare_60 : decode cX3_prepare 60 = .ok (.invokevirtual 53, 3) := by decide +kernel
theorem dX3_prepare_63 : decode cX3_prepare 63 = .ok (.return_, 1) := by decide +kernel
theorem dX3_weigh_0 : decode cX3_weigh 0 = .ok (.aload_n 1, 1) := by decide +kernel
theorem dX3_weigh_1 : decode cX3_weigh 1 = .ok (.getfield 33, 3) := by decide +kernel
theorem dX3_weigh_4 : decode cX3_weigh 4 = .ok (.iconst 0, 1) := by decide +kernel
theorem dX3_weigh_5 : decode cX3_weigh 5 = .ok (.aaload, 1) := by decide +kernel
theorem dX3_weigh_6 : decode cX3_weigh 6 = .ok (.iload_n 2, 1) := by decide +kernel
theorem dX3_weigh_7 : decode cX3_weigh 7 = .ok (.sipush 1440, 3) := by decide +kernel
theorem dX3_weigh_10 : decode cX3_weigh 10 = .ok (.imul, 1) := by decide +kernel
theorem dX3_weigh_11 : decode cX3_weigh 11 = .ok (.invokevirtual 57, 3) := by decide +kernel
theorem dX3_weigh_14 : decode cX3_weigh 14 = .ok (.istore 4, 2) := by decide +kernel
theorem dX3_weigh_16 : decode cX3_weigh 16 = .ok (.iconst 0, 1) := by decide +kernel
theorem dX3_weigh_17 : decode cX3_weigh 17 = .ok (.istore 5, 2) := by decide +kernel
theorem dX3_weigh_19 : decode cX3_weigh 19 = .ok (.iconst 0, 1) := by decide +kernel
theorem dX3_weigh_20 : decode cX3_weigh 20 = .ok (.istore 6, 2) := by decide +kernel
theorem dX3_weigh_22 : decode cX3_weigh 22 = .ok (.iload 6, 2) := by decide +kernel
theorem dX3_weigh_24 : decode cX3_weigh 24 = .ok (.aload_n 1, 1) := by decide +kernel
theorem dX3_weigh_25 : decode cX3_weigh 25 = .ok (.getfield 60, 3) := by decide +kernel
theorem dX3_weigh_28 : decode cX3_weigh 28 = .ok (.if_icmp .ge 41, 3) := by decide +kernel
theorem dX3_weigh_31 : decode cX3_weigh 31 = .ok (.aload_n 1, 1) := by decide +kernel
theorem dX3_weigh_32 : decode cX3_weigh 32 = .ok (.getfield 63, 3) := by decide +kernel
theorem dX3_weigh_35 : decode cX3_weigh 35 = .ok (.iload 6, 2) := by decide +kernel
theorem dX3_weigh_37 : decode cX3_weigh 37 = .ok (.iconst 5, 1) := by decide +kernel
theorem dX3_weigh_38 : decode cX3_weigh 38 = .ok (.imul, 1) := by decide +kernel
theorem dX3_weigh_39 : decode cX3_weigh 39 = .ok (.iaload, 1) := by decide +kernel
theorem dX3_weigh_40 : decode cX3_weigh 40 = .ok (.iload_n 2, 1) := by decide +kernel
theorem dX3_weigh_41 : decode cX3_weigh 41 = .ok (.if_icmp .ne 22, 3) := by decide +kernel
theorem dX3_weigh_44 : decode cX3_weigh 44 = .ok (.iload 5, 2) := by decide +kernel
theorem dX3_weigh_46 : decode cX3_weigh 46 = .ok (.iconst 1, 1) := by decide +kernel
theorem dX3_weigh_47 : decode cX3_weigh 47 = .ok (.iload 6, 2) := by decide +kernel
theorem dX3_weigh_49 : decode cX3_weigh 49 = .ok (.ishl, 1) := by decide +kernel
theorem dX3_weigh_50 : decode cX3_weigh 50 = .ok (.ior, 1) := by decide +kernel
theorem dX3_weigh_51 : decode cX3_weigh 51 = .ok (.istore 5, 2) := by decide +kernel
theorem dX3_weigh_53 : decode cX3_weigh 53 = .ok (.aload_n 0, 1) := by decide +kernel
theorem dX3_weigh_54 : decode cX3_weigh 54 = .ok (.aload_n 1, 1) := by decide +kernel
theorem dX3_weigh_55 : decode cX3_weigh 55 = .ok (.iload 6, 2) := by decide +kernel
theorem dX3_weigh_57 : decode cX3_weigh 57 = .ok (.iload 4, 2) := by decide +kernel
theorem dX3_weigh_59 : decode cX3_weigh 59 = .ok (.iload_n 3, 1) := by decide +kernel
theorem dX3_weigh_60 : decode cX3_weigh 60 = .ok (.invokevirtual 66, 3) := by decide +kernel
theorem dX3_weigh_63 : decode cX3_weigh 63 = .ok (.iinc 6 1, 3) := by decide +kernel
theorem dX3_weigh_66 : decode cX3_weigh 66 = .ok (.goto (-44), 3) := by decide +kernel
theorem dX3_weigh_69 : decode cX3_weigh 69 = .ok (.aload_n 0, 1) := by decide +kernel
theorem dX3_weigh_70 : decode cX3_weigh 70 = .ok (.iconst 0, 1) := by decide +kernel
theorem dX3_weigh_71 : decode cX3_weigh 71 = .ok (.putfield 47, 3) := by decide +kernel
theorem dX3_weigh_74 : decode cX3_weigh 74 = .ok (.aload_n 0, 1) := by decide +kernel
theorem dX3_weigh_75 : decode cX3_weigh 75 = .ok (.iconst 0, 1) := by decide +kernel
theorem dX3_weigh_76 : decode cX3_weigh 76 = .ok (.putfield 70, 3) := by decide +kernel
theorem dX3_weigh_79 : decode cX3_weigh 79 = .ok (.aload_n 0, 1) := by decide +kernel
theorem dX3_weigh_80 : decode cX3_weigh 80 = .ok (.getfield 20, 3) := by decide +kernel
theorem dX3_weigh_83 : decode cX3_weigh 83 = .ok (.iconst 0, 1) := by decide +kernel
theorem dX3_weigh_84 : decode cX3_weigh 84 = .ok (.ldc 73, 2) := by decide +kernel
theorem dX3_weigh_86 : decode cX3_weigh 86 = .ok (.iastore, 1) := by decide +kernel
theorem dX3_weigh_87 : decode cX3_weigh 87 = .ok (.iconst 1, 1) := by decide +kernel
theorem dX3_weigh_88 : decode cX3_weigh 88 = .ok (.istore 6, 2) := by decide +kernel
theorem dX3_weigh_90 : decode cX3_weigh 90 = .ok (.iload 6, 2) := by decide +kernel
theorem dX3_weigh_92 : decode cX3_weigh 92 = .ok (.iconst 1, 1) := by decide +kernel
theorem dX3_weigh_93 : decode cX3_weigh 93 = .ok (.aload_n 1, 1) := by decide +kernel
theorem dX3_weigh_94 : decode cX3_weigh 94 = .ok (.getfield 60, 3) := by decide +kernel
theorem dX3_weigh_97 : decode cX3_weigh 97 = .ok (.ishl, 1) := by decide +kernel
theorem dX3_weigh_98 : decode cX3_weigh 98 = .ok (.if_icmp .ge 40, 3) := by decide +kernel
theorem dX3_weigh_101 : decode cX3_weigh 101 = .ok (.iload 6, 2) := by decide +kernel
theorem dX3_weigh_103 : decode cX3_weigh 103 = .ok (.iload 5, 2) := by decide +kernel
theorem dX3_weigh_105 : decode cX3_weigh 105 = .ok (.iconst (-1), 1) := by decide +kernel
theorem dX3_weigh_106 : decode cX3_weigh 106 = .ok (.ixor, 1) := by decide +kernel
theorem dX3_weigh_107 : decode cX3_weigh 107 = .ok (.iand, 1) := by decide +kernel
theorem dX3_weigh_108 : decode cX3_weigh 108 = .ok (.ifCond .ne 24, 3) := by decide +kernel
theorem dX3_weigh_111 : decode cX3_weigh 111 = .ok (.aload_n 0, 1) := by decide +kernel
theorem dX3_weigh_112 : decode cX3_weigh 112 = .ok (.getfield 20, 3) := by decide +kernel
theorem dX3_weigh_115 : decode cX3_weigh 115 = .ok (.iload 6, 2) := by decide +kernel
theorem dX3_weigh_117 : decode cX3_weigh 117 = .ok (.aload_n 0, 1) := by decide +kernel
theorem dX3_weigh_118 : decode cX3_weigh 118 = .ok (.aload_n 1, 1) := by decide +kernel
theorem dX3_weigh_119 : decode cX3_weigh 119 = .ok (.iload 6, 2) := by decide +kernel
theorem dX3_weigh_121 : decode cX3_weigh 121 = .ok (.invokevirtual 74, 3) := by decide +kernel
theorem dX3_weigh_124 : decode cX3_weigh 124 = .ok (.iastore, 1) := by decide +kernel
theorem dX3_weigh_125 : decode cX3_weigh 125 = .ok (.aload_n 0, 1) := by decide +kernel
theorem dX3_weigh_126 : decode cX3_weigh 126 = .ok (.aload_n 1, 1) := by decide +kernel
theorem dX3_weigh_127 : decode cX3_weigh 127 = .ok (.iload 6, 2) := by decide +kernel
theorem dX3_weigh_129 : decode cX3_weigh 129 = .ok (.invokevirtual 78, 3) := by decide +kernel
theorem dX3_weigh_132 : decode cX3_weigh 132 = .ok (.iinc 6 1, 3) := by decide +kernel
theorem dX3_weigh_135 : decode cX3_weigh 135 = .ok (.goto (-45), 3) := by decide +kernel
theorem dX3_weigh_138 : decode cX3_weigh 138 = .ok (.return_, 1) := by decide +kernel
theorem dX3_layWindows_0 : decode cX3_layWindows 0 = .ok (.aload_n 1, 1) := by decide +kernel
theorem dX3_layWindows_1 : decode cX3_layWindows 1 = .ok (.getfield 63, 3) := by decide +kernel
theorem dX3_layWindows_4 : decode cX3_layWindows 4 = .ok (.iload_n 2, 1) := by decide +kernel
theorem dX3_layWindows_5 : decode cX3_layWindows 5 = .ok (.iconst 5, 1) := by decide +kernel
theorem dX3_layWindows_6 : decode cX3_layWindows 6 = .ok (.imul, 1) := by decide +kernel
theorem dX3_layWindows_7 : decode cX3_layWindows 7 = .ok (.iconst 1, 1) := by decide +kernel
theorem dX3_layWindows_8 : decode cX3_layWindows 8 = .ok (.iadd, 1) := by decide +kernel
theorem dX3_layWindows_9 : decode cX3_layWindows 9 = .ok (.iaload, 1) := by decide +kernel
theorem dX3_layWindows_10 : decode cX3_layWindows 10 = .ok (.istore 5, 2) := by decide +kernel
theorem dX3_layWindows_12 : decode cX3_layWindows 12 = .ok (.aload_n 1, 1) := by decide +kernel
theorem dX3_layWindows_13 : decode cX3_layWindows 13 = .ok (.getfield 63, 3) := by decide +kernel
theorem dX3_layWindows_16 : decode cX3_layWindows 16 = .ok (.iload_n 2, 1) := by decide +kernel
theorem dX3_layWindows_17 : decode cX3_layWindows 17 = .ok (.iconst 5, 1) := by decide +kernel
theorem dX3_layWindows_18 : decode cX3_layWindows 18 = .ok (.imul, 1) := by decide +kernel
theorem dX3_layWindows_19 : decode cX3_layWindows 19 = .ok (.iconst 2, 1) := by decide +kernel
theorem dX3_layWindows_20 : decode cX3_layWindows 20 = .ok (.iadd, 1) := by decide +kernel
theorem dX3_layWindows_21 : decode cX3_layWindows 21 = .ok (.iaload, 1) := by decide +kernel
theorem dX3_layWindows_22 : decode cX3_layWindows 22 = .ok (.istore 6, 2) := by decide +kernel
theorem dX3_layWindows_24 : decode cX3_layWindows 24 = .ok (.iconst 2, 1) := by decide +kernel
theorem dX3_layWindows_25 : decode cX3_layWindows 25 = .ok (.iload_n 2, 1) := by decide +kernel
theorem dX3_layWindows_26 : decode cX3_layWindows 26 = .ok (.imul, 1) := by decide +kernel
theorem dX3_layWindows_27 : decode cX3_layWindows 27 = .ok (.istore 7, 2) := by decide +kernel
theorem dX3_layWindows_29 : decode cX3_layWindows 29 = .ok (.aload_n 0, 1) := by decide +kernel
theorem dX3_layWindows_30 : decode cX3_layWindows 30 = .ok (.getfield 11, 3) := by decide +kernel
theorem dX3_layWindows_33 : decode cX3_layWindows 33 = .ok (.iload 7, 2) := by decide +kernel
theorem dX3_layWindows_35 : decode cX3_layWindows 35 = .ok (.iload_n 3, 1) := by decide +kernel
theorem dX3_layWindows_36 : decode cX3_layWindows 36 = .ok (.iload 5, 2) := by decide +kernel
theorem dX3_layWindows_38 : decode cX3_layWindows 38 = .ok (.iadd, 1) := by decide +kernel
theorem dX3_layWindows_39 : decode cX3_layWindows 39 = .ok (.iastore, 1) := by decide +kernel
theorem dX3_layWindows_40 : decode cX3_layWindows 40 = .ok (.aload_n 0, 1) := by decide +kernel
theorem dX3_layWindows_41 : decode cX3_layWindows 41 = .ok (.getfield 17, 3) := by decide +kernel
theorem dX3_layWindows_44 : decode cX3_layWindows 44 = .ok (.iload 7, 2) := by decide +kernel
theorem dX3_layWindows_46 : decode cX3_layWindows 46 = .ok (.iload_n 3, 1) := by decide +kernel
theorem dX3_layWindows_47 : decode cX3_layWindows 47 = .ok (.iload 4, 2) := by decide +kernel
theorem dX3_layWindows_49 : decode cX3_layWindows 49 = .ok (.iconst (-1), 1) := by decide +kernel
theorem dX3_layWindows_50 : decode cX3_layWindows 50 = .ok (.if_icmp .ne 8, 3) := by decide +kernel
theorem dX3_layWindows_53 : decode cX3_layWindows 53 = .ok (.iload 6, 2) := by decide +kernel
theorem dX3_layWindows_55 : decode cX3_layWindows 55 = .ok (.goto 10, 3) := by decide +kernel
theorem dX3_layWindows_58 : decode cX3_layWindows 58 = .ok (.iload 6, 2) := by decide +kernel
theorem dX3_layWindows_60 : decode cX3_layWindows 60 = .ok (.iload 4, 2) := by decide +kernel
theorem dX3_layWindows_62 : decode cX3_layWindows 62 = .ok (.invokestatic 82, 3) := by decide +kernel
theorem dX3_layWindows_65 : decode cX3_layWindows 65 = .ok (.iadd, 1) := by decide +kernel
theorem dX3_layWindows_66 : decode cX3_layWindows 66 = .ok (.iastore, 1) := by decide +kernel
theorem dX3_layWindows_67 : decode cX3_layWindows 67 = .ok (.aload_n 0, 1) := by decide +kernel
theorem dX3_layWindows_68 : decode cX3_layWindows 68 = .ok (.getfield 11, 3) := by decide +kernel
theorem dX3_layWindows_71 : decode cX3_layWindows 71 = .ok (.iload 7, 2) := by decide +kernel
theorem dX3_layWindows_73 : decode cX3_layWindows 73 = .ok (.iconst 1, 1) := by decide +kernel
theorem dX3_layWindows_74 : decode cX3_layWindows 74 = .ok (.iadd, 1) := by decide +kernel
theorem dX3_layWindows_75 : decode cX3_layWindows 75 = .ok (.iload_n 3, 1) := by decide +kernel
theorem dX3_layWindows_76 : decode cX3_layWindows 76 = .ok (.bipush 60, 2) := by decide +kernel
theorem dX3_layWindows_78 : decode cX3_layWindows 78 = .ok (.iadd, 1) := by decide +kernel
theorem dX3_layWindows_79 : decode cX3_layWindows 79 = .ok (.iload 4, 2) := by decide +kernel
theorem dX3_layWindows_81 : decode cX3_layWindows 81 = .ok (.iconst (-1), 1) := by decide +kernel
theorem dX3_layWindows_82 : decode cX3_layWindows 82 = .ok (.if_icmp .ne 8, 3) := by decide +kernel
theorem dX3_layWindows_85 : decode cX3_layWindows 85 = .ok (.iload 6, 2) := by decide +kernel
theorem dX3_layWindows_87 : decode cX3_layWindows 87 = .ok (.goto 13, 3) := by decide +kernel
theorem dX3_layWindows_90 : decode cX3_layWindows 90 = .ok (.iload 5, 2) := by decide +kernel
theorem dX3_layWindows_92 : decode cX3_layWindows 92 = .ok (.iload 4, 2) := by decide +kernel
theorem dX3_layWindows_94 : decode cX3_layWindows 94 = .ok (.bipush 60, 2) := by decide +kernel
theorem dX3_layWindows_96 : decode cX3_layWindows 96 = .ok (.isub, 1) := by decide +kernel
theorem dX3_layWindows_97 : decode cX3_layWindows 97 = .ok (.invokestatic 88, 3) := by decide +kernel
theorem dX3_layWindows_100 : decode cX3_layWindows 100 = .ok (.iadd, 1) := by decide +kernel
theorem dX3_layWindows_101 : decode cX3_layWindows 101 = .ok (.iastore, 1) := by decide +kernel
theorem dX3_layWindows_102 : decode cX3_layWindows 102 = .ok (.aload_n 0, 1) := by decide +kernel
theorem dX3_layWindows_103 : decode cX3_layWindows 103 = .ok (.getfield 17, 3) := by decide +kernel
theorem dX3_layWindows_106 : decode cX3_layWindows 106 = .ok (.iload 7, 2) := by decide +kernel
theorem dX3_layWindows_108 : decode cX3_layWindows 108 = .ok (.iconst 1, 1) := by decide +kernel
theorem dX3_layWindows_109 : decode cX3_layWindows 109 = .ok (.iadd, 1) := by decide +kernel
theorem dX3_layWindows_110 : decode cX3_layWindows 110 = .ok (.iload_n 3, 1) := by decide +kernel
theorem dX3_layWindows_111 : decode cX3_layWindows 111 = .ok (.bipush 60, 2) := by decide +kernel
theorem dX3_layWindows_113 : decode cX3_layWindows 113 = .ok (.iadd, 1) := by decide +kernel
theorem dX3_layWindows_114 : decode cX3_layWindows 114 = .ok (.iload 6, 2) := by decide +kernel
theorem dX3_layWindows_116 : decode cX3_layWindows 116 = .ok (.iadd, 1) := by decide +kernel
theorem dX3_layWindows_117 : decode cX3_layWindows 117 = .ok (.iastore, 1) := by decide +kernel
theorem dX3_layWindows_118 : decode cX3_layWindows 118 = .ok (.return_, 1) := by decide +kernel
theorem dX3_latestFor_0 : decode cX3_latestFor 0 = .ok (.iconst (-1), 1) := by decide +kernel
theorem dX3_latestFor_1 : decode cX3_latestFor 1 = .ok (.istore_n 3, 1) := by decide +kernel
theorem dX3_latestFor_2 : decode cX3_latestFor 2 = .ok (.iconst 0, 1) := by decide +kernel
theorem dX3_latestFor_3 : decode cX3_latestFor 3 = .ok (.istore 4, 2) := by decide +kernel
theorem dX3_latestFor_5 : decode cX3_latestFor 5 = .ok (.iload 4, 2) := by decide +kernel
theorem dX3_latestFor_7 : decode cX3_latestFor 7 = .ok (.aload_n 1, 1) := by decide +kernel
theorem dX3_latestFor_8 : decode cX3_latestFor 8 = .ok (.getfield 60, 3) := by decide +kernel
theorem dX3_latestFor_11 : decode cX3_latestFor 11 = .ok (.if_icmp .ge 54, 3) := by decide +kernel
theorem dX3_latestFor_14 : decode cX3_latestFor 14 = .ok (.iload_n 2, 1) := by decide +kernel
theorem dX3_latestFor_15 : decode cX3_latestFor 15 = .ok (.iload 4, 2) := by decide +kernel
theorem dX3_latestFor_17 : decode cX3_latestFor 17 = .ok (.ishr, 1) := by decide +kernel
theorem dX3_latestFor_18 : decode cX3_latestFor 18 = .ok (.iconst 1, 1) := by decide +kernel
theorem dX3_latestFor_19 : decode cX3_latestFor 19 = .ok (.iand, 1) := by decide +kernel
theorem dX3_latestFor_20 : decode cX3_latestFor 20 = .ok (.iconst 1, 1) := by decide +kernel
theorem dX3_latestFor_21 : decode cX3_latestFor 21 = .ok (.if_icmp .ne 38, 3) := by decide +kernel
theorem dX3_latestFor_24 : decode cX3_latestFor 24 = .ok (.aload_n 0, 1) := by decide +kernel
theorem dX3_latestFor_25 : decode cX3_latestFor 25 = .ok (.getfield 20, 3) := by decide +kernel
theorem dX3_latestFor_28 : decode cX3_latestFor 28 = .ok (.iload_n 2, 1) := by decide +kernel
theorem dX3_latestFor_29 : decode cX3_latestFor 29 = .ok (.iconst 1, 1) := by decide +kernel
theorem dX3_latestFor_30 : decode cX3_latestFor 30 = .ok (.iload 4, 2) := by decide +kernel
theorem dX3_latestFor_32 : decode cX3_latestFor 32 = .ok (.ishl, 1) := by decide +kernel
theorem dX3_latestFor_33 : decode cX3_latestFor 33 = .ok (.iconst (-1), 1) := by decide +kernel
theorem dX3_latestFor_34 : decode cX3_latestFor 34 = .ok (.ixor, 1) := by decide +kernel
theorem dX3_latestFor_35 : decode cX3_latestFor 35 = .ok (.iand, 1) := by decide +kernel
theorem dX3_latestFor_36 : decode cX3_latestFor 36 = .ok (.iaload, 1) := by decide +kernel
theorem dX3_latestFor_37 : decode cX3_latestFor 37 = .ok (.istore 5, 2) := by decide +kernel
theorem dX3_latestFor_39 : decode cX3_latestFor 39 = .ok (.iload_n 3, 1) := by decide +kernel
theorem dX3_latestFor_40 : decode cX3_latestFor 40 = .ok (.aload_n 0, 1) := by decide +kernel
theorem dX3_latestFor_41 : decode cX3_latestFor 41 = .ok (.iload 4, 2) := by decide +kernel
theorem dX3_latestFor_43 : decode cX3_latestFor 43 = .ok (.iload 5, 2) := by decide +kernel
theorem dX3_latestFor_45 : decode cX3_latestFor 45 = .ok (.aload_n 1, 1) := by decide +kernel
theorem dX3_latestFor_46 : decode cX3_latestFor 46 = .ok (.iload 4, 2) := by decide +kernel
theorem dX3_latestFor_48 : decode cX3_latestFor 48 = .ok (.invokestatic 91, 3) := by decide +kernel
theorem dX3_latestFor_51 : decode cX3_latestFor 51 = .ok (.isub, 1) := by decide +kernel
theorem dX3_latestFor_52 : decode cX3_latestFor 52 = .ok (.invokevirtual 94, 3) := by decide +kernel
theorem dX3_latestFor_55 : decode cX3_latestFor 55 = .ok (.invokestatic 88, 3) := by decide +kernel
theorem dX3_latestFor_58 : decode cX3_latestFor 58 = .ok (.istore_n 3, 1) := by decide +kernel
theorem dX3_latestFor_59 : decode cX3_latestFor 59 = .ok (.iinc 4 1, 3) := by decide +kernel
theorem dX3_latestFor_62 : decode cX3_latestFor 62 = .ok (.goto (-57), 3) := by decide +kernel
theorem dX3_latestFor_65 : decode cX3_latestFor 65 = .ok (.iload_n 3, 1) := by decide +kernel
theorem dX3_latestFor_66 : decode cX3_latestFor 66 = .ok (.ireturn, 1) := by decide +kernel
theorem dX3_keepIfBetter_0 : decode cX3_keepIfBetter 0 = .ok (.aload_n 0, 1) := by decide +kernel
theorem dX3_keepIfBetter_1 : decode cX3_keepIfBetter 1 = .ok (.getfield 20, 3) := by decide +kernel
theorem dX3_keepIfBetter_4 : decode cX3_keepIfBetter 4 = .ok (.iload_n 2, 1) := by decide +kernel
theorem dX3_keepIfBetter_5 : decode cX3_keepIfBetter 5 = .ok (.iaload, 1) := by decide +kernel
theorem dX3_keepIfBetter_6 : decode cX3_keepIfBetter 6 = .ok (.iconst (-1), 1) := by decide +kernel
theorem dX3_keepIfBetter_7 : decode cX3_keepIfBetter 7 = .ok (.if_icmp .ne 4, 3) := by decide +kernel
theorem dX3_keepIfBetter_10 : decode cX3_keepIfBetter 10 = .ok (.return_, 1) := by decide +kernel
theorem dX3_keepIfBetter_11 : decode cX3_keepIfBetter 11 = .ok (.iconst 0, 1) := by decide +kernel
theorem dX3_keepIfBetter_12 : decode cX3_keepIfBetter 12 = .ok (.istore_n 3, 1) := by decide +kernel
theorem dX3_keepIfBetter_13 : decode cX3_keepIfBetter 13 = .ok (.iconst 0, 1) := by decide +kernel
theorem dX3_keepIfBetter_14 : decode cX3_keepIfBetter 14 = .ok (.istore 4, 2) := by decide +kernel
theorem dX3_keepIfBetter_16 : decode cX3_keepIfBetter 16 = .ok (.iload 4, 2) := by decide +kernel
theorem dX3_keepIfBetter_18 : decode cX3_keepIfBetter 18 = .ok (.aload_n 1, 1) := by decide +kernel
theorem dX3_keepIfBetter_19 : decode cX3_keepIfBetter 19 = .ok (.getfield 60, 3) := by decide +kernel
theorem dX3_keepIfBetter_22 : decode cX3_keepIfBetter 22 = .ok (.if_icmp .ge 33, 3) := by decide +kernel
theorem dX3_keepIfBetter_25 : decode cX3_keepIfBetter 25 = .ok (.iload_n 2, 1) := by decide +kernel
theorem dX3_keepIfBetter_26 : decode cX3_keepIfBetter 26 = .ok (.iload 4, 2) := by decide +kernel
theorem dX3_keepIfBetter_28 : decode cX3_keepIfBetter 28 = .ok (.ishr, 1) := by decide +kernel
theorem dX3_keepIfBetter_29 : decode cX3_keepIfBetter 29 = .ok (.iconst 1, 1) := by decide +kernel
theorem dX3_keepIfBetter_30 : decode cX3_keepIfBetter 30 = .ok (.iand, 1) := by decide +kernel
theorem dX3_keepIfBetter_31 : decode cX3_keepIfBetter 31 = .ok (.iconst 1, 1) := by decide +kernel
theorem dX3_keepIfBetter_32 : decode cX3_keepIfBetter 32 = .ok (.if_icmp .ne 17, 3) := by decide +kernel
theorem dX3_keepIfBetter_35 : decode cX3_keepIfBetter 35 = .ok (.iload_n 3, 1) := by decide +kernel
theorem dX3_keepIfBetter_36 : decode cX3_keepIfBetter 36 = .ok (.aload_n 1, 1) := by decide +kernel
theorem dX3_keepIfBetter_37 : decode cX3_keepIfBetter 37 = .ok (.getfield 63, 3) := by decide +kernel
theorem dX3_keepIfBetter_40 : decode cX3_keepIfBetter 40 = .ok (.iload 4, 2) := by decide +kernel
theorem dX3_keepIfBetter_42 : decode cX3_keepIfBetter 42 = .ok (.iconst 5, 1) := by decide +kernel
theorem dX3_keepIfBetter_43 : decode cX3_keepIfBetter 43 = .ok (.imul, 1) := by decide +kernel
theorem dX3_keepIfBetter_44 : decode cX3_keepIfBetter 44 = .ok (.iconst 4, 1) := by decide +kernel
theorem dX3_keepIfBetter_45 : decode cX3_keepIfBetter 45 = .ok (.iadd, 1) := by decide +kernel
theorem dX3_keepIfBetter_46 : decode cX3_keepIfBetter 46 = .ok (.iaload, 1) := by decide +kernel
theorem dX3_keepIfBetter_47 : decode cX3_keepIfBetter 47 = .ok (.iadd, 1) := by decide +kernel
theorem dX3_keepIfBetter_48 : decode cX3_keepIfBetter 48 = .ok (.istore_n 3, 1) := by decide +kernel
theorem dX3_keepIfBetter_49 : decode cX3_keepIfBetter 49 = .ok (.iinc 4 1, 3) := by decide +kernel
theorem dX3_keepIfBetter_52 : decode cX3_keepIfBetter 52 = .ok (.goto (-36), 3) := by decide +kernel
theorem dX3_keepIfBetter_55 : decode cX3_keepIfBetter 55 = .ok (.iload_n 3, 1) := by decide +kernel
theorem dX3_keepIfBetter_56 : decode cX3_keepIfBetter 56 = .ok (.aload_n 0, 1) := by decide +kernel
theorem dX3_keepIfBetter_57 : decode cX3_keepIfBetter 57 = .ok (.getfield 47, 3) := by decide +kernel
theorem dX3_keepIfBetter_60 : decode cX3_keepIfBetter 60 = .ok (.if_icmp .le 13, 3) := by decide +kernel
theorem dX3_keepIfBetter_63 : decode cX3_keepIfBetter 63 = .ok (.aload_n 0, 1) := by decide +kernel
theorem dX3_keepIfBetter_64 : decode cX3_keepIfBetter 64 = .ok (.iload_n 3, 1) := by decide +kernel
theorem dX3_keepIfBetter_65 : decode cX3_keepIfBetter 65 = .ok (.putfield 47, 3) := by decide +kernel
theorem dX3_keepIfBetter_68 : decode cX3_keepIfBetter 68 = .ok (.aload_n 0, 1) := by decide +kernel
theorem dX3_keepIfBetter_69 : decode cX3_keepIfBetter 69 = .ok (.iload_n 2, 1) := by decide +kernel
theorem dX3_keepIfBetter_70 : decode cX3_keepIfBetter 70 = .ok (.putfield 70, 3) := by decide +kernel
theorem dX3_keepIfBetter_73 : decode cX3_keepIfBetter 73 = .ok (.return_, 1) := by decide +kernel
theorem dX3_layRow_0 : decode cX3_layRow 0 = .ok (.aload_n 0, 1) := by decide +kernel
theorem dX3_layRow_1 : decode cX3_layRow 1 = .ok (.aload_n 0, 1) := by decide +kernel
theorem dX3_layRow_2 : decode cX3_layRow 2 = .ok (.getfield 70, 3) := by decide +kernel
theorem dX3_layRow_5 : decode cX3_layRow 5 = .ok (.invokestatic 97, 3) := by decide +kernel
theorem dX3_layRow_8 : decode cX3_layRow 8 = .ok (.putfield 102, 3) := by decide +kernel
theorem dX3_layRow_11 : decode cX3_layRow 11 = .ok (.aload_n 0, 1) := by decide +kernel
theorem dX3_layRow_12 : decode cX3_layRow 12 = .ok (.getfield 70, 3) := by decide +kernel
theorem dX3_layRow_15 : decode cX3_layRow 15 = .ok (.istore_n 2, 1) := by decide +kernel
theorem dX3_layRow_16 : decode cX3_layRow 16 = .ok (.iconst 0, 1) := by decide +kernel
theorem dX3_layRow_17 : decode cX3_layRow 17 = .ok (.istore_n 3, 1) := by decide +kernel
theorem dX3_layRow_18 : decode cX3_layRow 18 = .ok (.iconst 0, 1) := by decide +kernel
theorem dX3_layRow_19 : decode cX3_layRow 19 = .ok (.istore 4, 2) := by decide +kernel
theorem dX3_layRow_21 : decode cX3_layRow 21 = .ok (.iload 4, 2) := by decide +kernel
theorem dX3_layRow_23 : decode cX3_layRow 23 = .ok (.aload_n 0, 1) := by decide +kernel
theorem dX3_layRow_24 : decode cX3_layRow 24 = .ok (.getfield 102, 3) := by decide +kernel
theorem dX3_layRow_27 : decode cX3_layRow 27 = .ok (.if_icmp .ge 65, 3) := by decide +kernel
theorem dX3_layRow_30 : decode cX3_layRow 30 = .ok (.aload_n 0, 1) := by decide +kernel
theorem dX3_layRow_31 : decode cX3_layRow 31 = .ok (.aload_n 1, 1) := by decide +kernel
theorem dX3_layRow_32 : decode cX3_layRow 32 = .ok (.iload_n 2, 1) := by decide +kernel
theorem dX3_layRow_33 : decode cX3_layRow 33 = .ok (.iload_n 3, 1) := by decide +kernel
theorem dX3_layRow_34 : decode cX3_layRow 34 = .ok (.invokevirtual 105, 3) := by decide +kernel
theorem dX3_layRow_37 : decode cX3_layRow 37 = .ok (.istore 5, 2) := by decide +kernel
theorem dX3_layRow_39 : decode cX3_layRow 39 = .ok (.aload_n 0, 1) := by decide +kernel
theorem dX3_layRow_40 : decode cX3_layRow 40 = .ok (.getfield 23, 3) := by decide +kernel
theorem dX3_layRow_43 : decode cX3_layRow 43 = .ok (.iload 4, 2) := by decide +kernel
theorem dX3_layRow_45 : decode cX3_layRow 45 = .ok (.iload 5, 2) := by decide +kernel
theorem dX3_layRow_47 : decode cX3_layRow 47 = .ok (.iastore, 1) := by decide +kernel
theorem dX3_layRow_48 : decode cX3_layRow 48 = .ok (.aload_n 0, 1) := by decide +kernel
theorem dX3_layRow_49 : decode cX3_layRow 49 = .ok (.getfield 26, 3) := by decide +kernel
theorem dX3_layRow_52 : decode cX3_layRow 52 = .ok (.iload 4, 2) := by decide +kernel
theorem dX3_layRow_54 : decode cX3_layRow 54 = .ok (.aload_n 0, 1) := by decide +kernel
theorem dX3_layRow_55 : decode cX3_layRow 55 = .ok (.iload 5, 2) := by decide +kernel
theorem dX3_layRow_57 : decode cX3_layRow 57 = .ok (.iload_n 3, 1) := by decide +kernel
theorem dX3_layRow_58 : decode cX3_layRow 58 = .ok (.invokevirtual 109, 3) := by decide +kernel
theorem dX3_layRow_61 : decode cX3_layRow 61 = .ok (.iastore, 1) := by decide +kernel
theorem dX3_layRow_62 : decode cX3_layRow 62 = .ok (.aload_n 0, 1) := by decide +kernel
theorem dX3_layRow_63 : decode cX3_layRow 63 = .ok (.getfield 26, 3) := by decide +kernel
theorem dX3_layRow_66 : decode cX3_layRow 66 = .ok (.iload 4, 2) := by decide +kernel
theorem dX3_layRow_68 : decode cX3_layRow 68 = .ok (.iaload, 1) := by decide +kernel
theorem dX3_layRow_69 : decode cX3_layRow 69 = .ok (.aload_n 1, 1) := by decide +kernel
theorem dX3_layRow_70 : decode cX3_layRow 70 = .ok (.iload 5, 2) := by decide +kernel
theorem dX3_layRow_72 : decode cX3_layRow 72 = .ok (.invokestatic 91, 3) := by decide +kernel
theorem dX3_layRow_75 : decode cX3_layRow 75 = .ok (.iadd, 1) := by decide +kernel
theorem dX3_layRow_76 : decode cX3_layRow 76 = .ok (.istore_n 3, 1) := by decide +kernel
theorem dX3_layRow_77 : decode cX3_layRow 77 = .ok (.iload_n 2, 1) := by decide +kernel
theorem dX3_layRow_78 : decode cX3_layRow 78 = .ok (.iconst 1, 1) := by decide +kernel
theorem dX3_layRow_79 : decode cX3_layRow 79 = .ok (.iload 5, 2) := by decide +kernel
theorem dX3_layRow_81 : decode cX3_layRow 81 = .ok (.ishl, 1) := by decide +kernel
theorem dX3_layRow_82 : decode cX3_layRow 82 = .ok (.iconst (-1), 1) := by decide +kernel
theorem dX3_layRow_83 : decode cX3_layRow 83 = .ok (.ixor, 1) := by decide +kernel
theorem dX3_layRow_84 : decode cX3_layRow 84 = .ok (.iand, 1) := by decide +kernel
theorem dX3_layRow_85 : decode cX3_layRow 85 = .ok (.istore_n 2, 1) := by decide +kernel
theorem dX3_layRow_86 : decode cX3_layRow 86 = .ok (.iinc 4 1, 3) := by decide +kernel
theorem dX3_layRow_89 : decode cX3_layRow 89 = .ok (.goto (-68), 3) := by decide +kernel
theorem dX3_layRow_92 : decode cX3_layRow 92 = .ok (.return_, 1) := by decide +kernel
theorem dX3_firstThatLeavesRoom_0 : decode cX3_firstThatLeavesRoom 0 = .ok (.iconst 0, 1) := by decide +kernel
theorem dX3_firstThatLeavesRoom_1 : decode cX3_firstThatLeavesRoom 1 = .ok (.istore 4, 2) := by decide +kernel
theorem dX3_firstThatLeavesRoom_3 : decode cX3_firstThatLeavesRoom 3 = .ok (.iload 4, 2) := by decide +kernel
theorem dX3_firstThatLeavesRoom_5 : decode cX3_firstThatLeavesRoom 5 = .ok (.aload_n 1, 1) := by decide +kernel
theorem dX3_firstThatLeavesRoom_6 : decode cX3_firstThatLeavesRoom 6 = .ok (.getfield 60, 3) := by decide +kernel
theorem dX3_firstThatLeavesRoom_9 : decode cX3_firstThatLeavesRoom 9 = .ok (.if_icmp .ge 62, 3) := by decide +kernel
theorem dX3_firstThatLeavesRoom_12 : decode cX3_firstThatLeavesRoom 12 = .ok (.iload_n 2, 1) := by decide +kernel
theorem dX3_firstThatLeavesRoom_13 : decode cX3_firstThatLeavesRoom 13 = .ok (.iload 4, 2) := by decide +kernel
theorem dX3_firstThatLeavesRoom_15 : decode cX3_firstThatLeavesRoom 15 = .ok (.ishr, 1) := by decide +kernel
theorem dX3_firstThatLeavesRoom_16 : decode cX3_firstThatLeavesRoom 16 = .ok (.iconst 1, 1) := by decide +kernel
theorem dX3_firstThatLeavesRoom_17 : decode cX3_firstThatLeavesRoom 17 = .ok (.iand, 1) := by decide +kernel
theorem dX3_firstThatLeavesRoom_18 : decode cX3_firstThatLeavesRoom 18 = .ok (.iconst 1, 1) := by decide +kernel
theorem dX3_firstThatLeavesRoom_19 : decode cX3_firstThatLeavesRoom 19 = .ok (.if_icmp .ne 46, 3) := by decide +kernel
theorem dX3_firstThatLeavesRoom_22 : decode cX3_firstThatLeavesRoom 22 = .ok (.aload_n 0, 1) := by decide +kernel
theorem dX3_firstThatLeavesRoom_23 : decode cX3_firstThatLeavesRoom 23 = .ok (.iload 4, 2) := by decide +kernel
theorem dX3_firstThatLeavesRoom_25 : decode cX3_firstThatLeavesRoom 25 = .ok (.iload_n 3, 1) := by decide +kernel
theorem dX3_firstThatLeavesRoom_26 : decode cX3_firstThatLeavesRoom 26 = .ok (.invokevirtual 109, 3) := by decide +kernel
theorem dX3_firstThatLeavesRoom_29 : decode cX3_firstThatLeavesRoom 29 = .ok (.istore 5, 2) := by decide +kernel
theorem dX3_firstThatLeavesRoom_31 : decode cX3_firstThatLeavesRoom 31 = .ok (.iload 5, 2) := by decide +kernel
theorem dX3_firstThatLeavesRoom_33 : decode cX3_firstThatLeavesRoom 33 = .ok (.iconst (-1), 1) := by decide +kernel
theorem dX3_firstThatLeavesRoom_34 : decode cX3_firstThatLeavesRoom 34 = .ok (.if_icmp .eq 31, 3) := by decide +kernel
theorem dX3_firstThatLeavesRoom_37 : decode cX3_firstThatLeavesRoom 37 = .ok (.iload 5, 2) := by decide +kernel
theorem dX3_firstThatLeavesRoom_39 : decode cX3_firstThatLeavesRoom 39 = .ok (.aload_n 1, 1) := by decide +kernel
theorem dX3_firstThatLeavesRoom_40 : decode cX3_firstThatLeavesRoom 40 = .ok (.iload 4, 2) := by decide +kernel
theorem dX3_firstThatLeavesRoom_42 : decode cX3_firstThatLeavesRoom 42 = .ok (.invokestatic 91, 3) := by decide +kernel
theorem dX3_firstThatLeavesRoom_45 : decode cX3_firstThatLeavesRoom 45 = .ok (.iadd, 1) := by decide +kernel
theorem dX3_firstThatLeavesRoom_46 : decode cX3_firstThatLeavesRoom 46 = .ok (.aload_n 0, 1) := by decide +kernel
theorem dX3_firstThatLeavesRoom_47 : decode cX3_firstThatLeavesRoom 47 = .ok (.getfield 20, 3) := by decide +kernel
theorem dX3_firstThatLeavesRoom_50 : decode cX3_firstThatLeavesRoom 50 = .ok (.iload_n 2, 1) := by decide +kernel
theorem dX3_firstThatLeavesRoom_51 : decode cX3_firstThatLeavesRoom 51 = .ok (.iconst 1, 1) := by decide +kernel
theorem dX3_firstThatLeavesRoom_52 : decode cX3_firstThatLeavesRoom 52 = .ok (.iload 4, 2) := by decide +kernel
theorem dX3_firstThatLeavesRoom_54 : decode cX3_firstThatLeavesRoom 54 = .ok (.ishl, 1) := by decide +kernel
theorem dX3_firstThatLeavesRoom_55 : decode cX3_firstThatLeavesRoom 55 = .ok (.iconst (-1), 1) := by decide +kernel
theorem dX3_firstThatLeavesRoom_56 : decode cX3_firstThatLeavesRoom 56 = .ok (.ixor, 1) := by decide +kernel
theorem dX3_firstThatLeavesRoom_57 : decode cX3_firstThatLeavesRoom 57 = .ok (.iand, 1) := by decide +kernel
theorem dX3_firstThatLeavesRoom_58 : decode cX3_firstThatLeavesRoom 58 = .ok (.iaload, 1) := by decide +kernel
theorem dX3_firstThatLeavesRoom_59 : decode cX3_firstThatLeavesRoom 59 = .ok (.if_icmp .gt 6, 3) := by decide +kernel
theorem dX3_firstThatLeavesRoom_62 : decode cX3_firstThatLeavesRoom 62 = .ok (.iload 4, 2) := by decide +kernel
theorem dX3_firstThatLeavesRoom_64 : decode cX3_firstThatLeavesRoom 64 = .ok (.ireturn, 1) := by decide +kernel
theorem dX3_firstThatLeavesRoom_65 : decode cX3_firstThatLeavesRoom 65 = .ok (.iinc 4 1, 3) := by decide +kernel
theorem dX3_firstThatLeavesRoom_68 : decode cX3_firstThatLeavesRoom 68 = .ok (.goto (-65), 3) := by decide +kernel
theorem dX3_firstThatLeavesRoom_71 : decode cX3_firstThatLeavesRoom 71 = .ok (.iconst 0, 1) := by decide +kernel
theorem dX3_firstThatLeavesRoom_72 : decode cX3_firstThatLeavesRoom 72 = .ok (.ireturn, 1) := by decide +kernel
theorem dX3_earliestBegin_0 : decode cX3_earliestBegin 0 = .ok (.iconst 2, 1) := by decide +kernel
theorem dX3_earliestBegin_1 : decode cX3_earliestBegin 1 = .ok (.iload_n 1, 1) := by decide +kernel
theorem dX3_earliestBegin_2 : decode cX3_earliestBegin 2 = .ok (.imul, 1) := by decide +kernel
theorem dX3_earliestBegin_3 : decode cX3_earliestBegin 3 = .ok (.istore_n 3, 1) := by decide +kernel
theorem dX3_earliestBegin_4 : decode cX3_earliestBegin 4 = .ok (.iload_n 3, 1) := by decide +kernel
theorem dX3_earliestBegin_5 : decode cX3_earliestBegin 5 = .ok (.iconst 2, 1) := by decide +kernel
theorem dX3_earliestBegin_6 : decode cX3_earliestBegin 6 = .ok (.iload_n 1, 1) := by decide +kernel
theorem dX3_earliestBegin_7 : decode cX3_earliestBegin 7 = .ok (.imul, 1) := by decide +kernel
theorem dX3_earliestBegin_8 : decode cX3_earliestBegin 8 = .ok (.iconst 1, 1) := by decide +kernel
theorem dX3_earliestBegin_9 : decode cX3_earliestBegin 9 = .ok (.iadd, 1) := by decide +kernel
theorem dX3_earliestBegin_10 : decode cX3_earliestBegin 10 = .ok (.if_icmp .gt 35, 3) := by decide +kernel
theorem dX3_earliestBegin_13 : decode cX3_earliestBegin 13 = .ok (.iload_n 2, 1) := by decide +kernel
theorem dX3_earliestBegin_14 : decode cX3_earliestBegin 14 = .ok (.aload_n 0, 1) := by decide +kernel
theorem dX3_earliestBegin_15 : decode cX3_earliestBegin 15 = .ok (.getfield 11, 3) := by decide +kernel
theorem dX3_earliestBegin_18 : decode cX3_earliestBegin 18 = .ok (.iload_n 3, 1) := by decide +kernel
theorem dX3_earliestBegin_19 : decode cX3_earliestBegin 19 = .ok (.iaload, 1) := by decide +kernel
theorem dX3_earliestBegin_20 : decode cX3_earliestBegin 20 = .ok (.invokestatic 88, 3) := by decide +kernel
theorem dX3_earliestBegin_23 : decode cX3_earliestBegin 23 = .ok (.istore 4, 2) := by decide +kernel
theorem dX3_earliestBegin_25 : decode cX3_earliestBegin 25 = .ok (.iload 4, 2) := by decide +kernel
theorem dX3_earliestBegin_27 : decode cX3_earliestBegin 27 = .ok (.aload_n 0, 1) := by decide +kernel
theorem dX3_earliestBegin_28 : decode cX3_earliestBegin 28 = .ok (.getfield 17, 3) := by decide +kernel
theorem dX3_earliestBegin_31 : decode cX3_earliestBegin 31 = .ok (.iload_n 3, 1) := by decide +kernel
theorem dX3_earliestBegin_32 : decode cX3_earliestBegin 32 = .ok (.iaload, 1) := by decide +kernel
theorem dX3_earliestBegin_33 : decode cX3_earliestBegin 33 = .ok (.if_icmp .ge 6, 3) := by decide +kernel
theorem dX3_earliestBegin_36 : decode cX3_earliestBegin 36 = .ok (.iload 4, 2) := by decide +kernel
theorem dX3_earliestBegin_38 : decode cX3_earliestBegin 38 = .ok (.ireturn, 1) := by decide +kernel
theorem dX3_earliestBegin_39 : decode cX3_earliestBegin 39 = .ok (.iinc 3 1, 3) := by decide +kernel
theorem dX3_earliestBegin_42 : decode cX3_earliestBegin 42 = .ok (.goto (-38), 3) := by decide +kernel
theorem dX3_earliestBegin_45 : decode cX3_earliestBegin 45 = .ok (.iconst (-1), 1) := by decide +kernel
theorem dX3_earliestBegin_46 : decode cX3_earliestBegin 46 = .ok (.ireturn, 1) := by decide +kernel
theorem dX3_latestBegin_0 : decode cX3_latestBegin 0 = .ok (.iconst 2, 1) := by decide +kernel
theorem dX3_latestBegin_1 : decode cX3_latestBegin 1 = .ok (.iload_n 1, 1) := by decide +kernel
theorem dX3_latestBegin_2 : decode cX3_latestBegin 2 = .ok (.imul, 1) := by decide +kernel
theorem dX3_latestBegin_3 : decode cX3_latestBegin 3 = .ok (.iconst 1, 1) := by decide +kernel
theorem dX3_latestBegin_4 : decode cX3_latestBegin 4 = .ok (.iadd, 1) := by decide +kernel
theorem dX3_latestBegin_5 : decode cX3_latestBegin 5 = .ok (.istore_n 3, 1) := by decide +kernel
theorem dX3_latestBegin_6 : decode cX3_latestBegin 6 = .ok (.iload_n 3, 1) := by decide +kernel
theorem dX3_latestBegin_7 : decode cX3_latestBegin 7 = .ok (.iconst 2, 1) := by decide +kernel
theorem dX3_latestBegin_8 : decode cX3_latestBegin 8 = .ok (.iload_n 1, 1) := by decide +kernel
theorem dX3_latestBegin_9 : decode cX3_latestBegin 9 = .ok (.imul, 1) := by decide +kernel
theorem dX3_latestBegin_10 : decode cX3_latestBegin 10 = .ok (.if_icmp .lt 37, 3) := by decide +kernel
theorem dX3_latestBegin_13 : decode cX3_latestBegin 13 = .ok (.iload_n 2, 1) := by decide +kernel
theorem dX3_latestBegin_14 : decode cX3_latestBegin 14 = .ok (.aload_n 0, 1) := by decide +kernel
theorem dX3_latestBegin_15 : decode cX3_latestBegin 15 = .ok (.getfield 17, 3) := by decide +kernel
theorem dX3_latestBegin_18 : decode cX3_latestBegin 18 = .ok (.iload_n 3, 1) := by decide +kernel
theorem dX3_latestBegin_19 : decode cX3_latestBegin 19 = .ok (.iaload, 1) := by decide +kernel
theorem dX3_latestBegin_20 : decode cX3_latestBegin 20 = .ok (.iconst 1, 1) := by decide +kernel
theorem dX3_latestBegin_21 : decode cX3_latestBegin 21 = .ok (.isub, 1) := by decide +kernel
theorem dX3_latestBegin_22 : decode cX3_latestBegin 22 = .ok (.invokestatic 82, 3) := by decide +kernel
theorem dX3_latestBegin_25 : decode cX3_latestBegin 25 = .ok (.istore 4, 2) := by decide +kernel
theorem dX3_latestBegin_27 : decode cX3_latestBegin 27 = .ok (.iload 4, 2) := by decide +kernel
theorem dX3_latestBegin_29 : decode cX3_latestBegin 29 = .ok (.aload_n 0, 1) := by decide +kernel
theorem dX3_latestBegin_30 : decode cX3_latestBegin 30 = .ok (.getfield 11, 3) := by decide +kernel
theorem dX3_latestBegin_33 : decode cX3_latestBegin 33 = .ok (.iload_n 3, 1) := by decide +kernel
theorem dX3_latestBegin_34 : decode cX3_latestBegin 34 = .ok (.iaload, 1) := by decide +kernel
theorem dX3_latestBegin_35 : decode cX3_latestBegin 35 = .ok (.if_icmp .lt 6, 3) := by decide +kernel
theorem dX3_latestBegin_38 : decode cX3_latestBegin 38 = .ok (.iload 4, 2) := by decide +kernel
theorem dX3_latestBegin_40 : decode cX3_latestBegin 40 = .ok (.ireturn, 1) := by decide +kernel
theorem dX3_latestBegin_41 : decode cX3_latestBegin 41 = .ok (.iinc 3 (-1), 3) := by decide +kernel
theorem dX3_latestBegin_44 : decode cX3_latestBegin 44 = .ok (.goto (-38), 3) := by decide +kernel
theorem dX3_latestBegin_47 : decode cX3_latestBegin 47 = .ok (.iconst (-1), 1) := by decide +kernel
theorem dX3_latestBegin_48 : decode cX3_latestBegin 48 = .ok (.ireturn, 1) := by decide +kernel
theorem dX3_lengthOf_0 : decode cX3_lengthOf 0 = .ok (.aload_n 0, 1) := by decide +kernel
theorem dX3_lengthOf_1 : decode cX3_lengthOf 1 = .ok (.getfield 63, 3) := by decide +kernel
theorem dX3_lengthOf_4 : decode cX3_lengthOf 4 = .ok (.iload_n 1, 1) := by decide +kernel
theorem dX3_lengthOf_5 : decode cX3_lengthOf 5 = .ok (.iconst 5, 1) := by decide +kernel
theorem dX3_lengthOf_6 : decode cX3_lengthOf 6 = .ok (.imul, 1) := by decide +kernel
theorem dX3_lengthOf_7 : decode cX3_lengthOf 7 = .ok (.iconst 3, 1) := by decide +kernel
theorem dX3_lengthOf_8 : decode cX3_lengthOf 8 = .ok (.iadd, 1) := by decide +kernel
theorem dX3_lengthOf_9 : decode cX3_lengthOf 9 = .ok (.iaload, 1) := by decide +kernel
theorem dX3_lengthOf_10 : decode cX3_lengthOf 10 = .ok (.ireturn, 1) := by decide +kernel
theorem dX5_init_0 : decode cX5_init 0 = .ok (.aload_n 0, 1) := by decide +kernel
theorem dX5_init_1 : decode cX5_init 1 = .ok (.invokespecial 1, 3) := by decide +kernel
theorem dX5_init_4 : decode cX5_init 4 = .ok (.aload_n 0, 1) := by decide +kernel
theorem dX5_init_5 : decode cX5_init 5 = .ok (.sipush 1000, 3) := by decide +kernel
theorem dX5_init_8 : decode cX5_init 8 = .ok (.newarray .byte, 2) := by decide +kernel
theorem dX5_init_10 : decode cX5_init 10 = .ok (.putfield 9, 3) := by decide +kernel
theorem dX5_init_13 : decode cX5_init 13 = .ok (.return_, 1) := by decide +kernel
theorem dX5_append_0 : decode cX5_append 0 = .ok (.bipush 56, 2) := by decide +kernel
theorem dX5_append_2 : decode cX5_append 2 = .ok (.istore_n 3, 1) := by decide +kernel
theorem dX5_append_3 : decode cX5_append 3 = .ok (.iload_n 3, 1) := by decide +kernel
theorem dX5_append_4 : decode cX5_append 4 = .ok (.ifCond .lt 70, 3) := by decide +kernel
theorem dX5_append_7 : decode cX5_append 7 = .ok (.lload_n 1, 1) := by decide +kernel
theorem dX5_append_8 : decode cX5_append 8 = .ok (.iload_n 3, 1) := by decide +kernel
theorem dX5_append_9 : decode cX5_append 9 = .ok (.lushr, 1) := by decide +kernel
theorem dX5_append_10 : decode cX5_append 10 = .ok (.ldc2_w 13, 3) := by decide +kernel
theorem dX5_append_13 : decode cX5_append 13 = .ok (.land, 1) := by decide +kernel
theorem dX5_append_14 : decode cX5_append 14 = .ok (.l2i, 1) := by decide +kernel
theorem dX5_append_15 : decode cX5_append 15 = .ok (.istore 4, 2) := by decide +kernel
theorem dX5_append_17 : decode cX5_append 17 = .ok (.iload 4, 2) := by decide +kernel
theorem dX5_append_19 : decode cX5_append 19 = .ok (.bipush 10, 2) := by decide +kernel
theorem dX5_append_21 : decode cX5_append 21 = .ok (.if_icmp .eq 15, 3) := by decide +kernel
theorem dX5_append_24 : decode cX5_append 24 = .ok (.iload 4, 2) := by decide +kernel
theorem dX5_append_26 : decode cX5_append 26 = .ok (.bipush 32, 2) := by decide +kernel
theorem dX5_append_28 : decode cX5_append 28 = .ok (.bipush 126, 2) := by decide +kernel
theorem dX5_append_30 : decode cX5_append 30 = .ok (.invokestatic 15, 3) := by decide +kernel
theorem dX5_append_33 : decode cX5_append 33 = .ok (.ifCond .eq 35, 3) := by decide +kernel
theorem dX5_append_36 : decode cX5_append 36 = .ok (.aload_n 0, 1) := by decide +kernel
theorem dX5_append_37 : decode cX5_append 37 = .ok (.getfield 21, 3) := by decide +kernel
theorem dX5_append_40 : decode cX5_append 40 = .ok (.sipush 1000, 3) := by decide +kernel
theorem dX5_append_43 : decode cX5_append 43 = .ok (.if_icmp .ge 25, 3) := by decide +kernel
theorem dX5_append_46 : decode cX5_append 46 = .ok (.aload_n 0, 1) := by decide +kernel
theorem dX5_append_47 : decode cX5_append 47 = .ok (.getfield 9, 3) := by decide +kernel
theorem dX5_append_50 : decode cX5_append 50 = .ok (.aload_n 0, 1) := by decide +kernel
theorem dX5_append_51 : decode cX5_append 51 = .ok (.getfield 21, 3) := by decide +kernel
theorem dX5_append_54 : decode cX5_append 54 = .ok (.iload 4, 2) := by decide +kernel
theorem dX5_append_56 : decode cX5_append 56 = .ok (.i2b, 1) := by decide +kernel
theorem dX5_append_57 : decode cX5_append 57 = .ok (.bastore, 1) := by decide +kernel
theorem dX5_append_58 : decode cX5_append 58 = .ok (.aload_n 0, 1) := by decide +kernel
theorem dX5_append_59 : decode cX5_append 59 = .ok (.dup, 1) := by decide +kernel
theorem dX5_append_60 : decode cX5_append 60 = .ok (.getfield 21, 3) := by decide +kernel
theorem dX5_append_63 : decode cX5_append 63 = .ok (.iconst 1, 1) := by decide +kernel
theorem dX5_append_64 : decode cX5_append 64 = .ok (.iadd, 1) := by decide +kernel
theorem dX5_append_65 : decode cX5_append 65 = .ok (.putfield 21, 3) := by decide +kernel
theorem dX5_append_68 : decode cX5_append 68 = .ok (.iinc 3 (-8), 3) := by decide +kernel
theorem dX5_append_71 : decode cX5_append 71 = .ok (.goto (-68), 3) := by decide +kernel
theorem dX5_append_74 : decode cX5_append 74 = .ok (.return_, 1) := by decide +kernel
theorem dX6_init_0 : decode cX6_init 0 = .ok (.aload_n 0, 1) := by decide +kernel
theorem dX6_init_1 : decode cX6_init 1 = .ok (.invokespecial 3, 3) := by decide +kernel
theorem dX6_init_4 : decode cX6_init 4 = .ok (.aload_n 0, 1) := by decide +kernel
theorem dX6_init_5 : decode cX6_init 5 = .ok (.bipush 25, 2) := by decide +kernel
theorem dX6_init_7 : decode cX6_init 7 = .ok (.newarray .int, 2) := by decide +kernel
theorem dX6_init_9 : decode cX6_init 9 = .ok (.putfield 9, 3) := by decide +kernel
theorem dX6_init_12 : decode cX6_init 12 = .ok (.return_, 1) := by decide +kernel
theorem dX6_elect_0 : decode cX6_elect 0 = .ok (.iload_n 2, 1) := by decide +kernel
theorem dX6_elect_1 : decode cX6_elect 1 = .ok (.tableswitch 92 0 5 #[39, 51, 61, 71, 76, 82], 39) := by decide +kernel
theorem dX6_elect_40 : decode cX6_elect 40 = .ok (.aload_n 0, 1) := by decide +kernel
theorem dX6_elect_41 : decode cX6_elect 41 = .ok (.aload_n 1, 1) := by decide +kernel
theorem dX6_elect_42 : decode cX6_elect 42 = .ok (.ldc 15, 2) := by decide +kernel
theorem dX6_elect_44 : decode cX6_elect 44 = .ok (.invokevirtual 16, 3) := by decide +kernel
theorem dX6_elect_47 : decode cX6_elect 47 = .ok (.aload_n 0, 1) := by decide +kernel
theorem dX6_elect_48 : decode cX6_elect 48 = .ok (.invokevirtual 20, 3) := by decide +kernel
theorem dX6_elect_51 : decode cX6_elect 51 = .ok (.ireturn, 1) := by decide +kernel
theorem dX6_elect_52 : decode cX6_elect 52 = .ok (.aload_n 0, 1) := by decide +kernel
theorem dX6_elect_53 : decode cX6_elect 53 = .ok (.aload_n 1, 1) := by decide +kernel
theorem dX6_elect_54 : decode cX6_elect 54 = .ok (.invokevirtual 24, 3) := by decide +kernel
theorem dX6_elect_57 : decode cX6_elect 57 = .ok (.aload_n 0, 1) := by decide +kernel
theorem dX6_elect_58 : decode cX6_elect 58 = .ok (.invokevirtual 20, 3) := by decide +kernel
theorem dX6_elect_61 : decode cX6_elect 61 = .ok (.ireturn, 1) := by decide +kernel
theorem dX6_elect_62 : decode cX6_elect 62 = .ok (.aload_n 0, 1) := by decide +kernel
theorem dX6_elect_63 : decode cX6_elect 63 = .ok (.aload_n 1, 1) := by decide +kernel
theorem dX6_elect_64 : decode cX6_elect 64 = .ok (.invokevirtual 28, 3) := by decide +kernel
theorem dX6_elect_67 : decode cX6_elect 67 = .ok (.aload_n 0, 1) := by decide +kernel
theorem dX6_elect_68 : decode cX6_elect 68 = .ok (.invokevirtual 20, 3) := by decide +kernel
theorem dX6_elect_71 : decode cX6_elect 71 = .ok (.ireturn, 1) := by decide +kernel
theorem dX6_elect_72 : decode cX6_elect 72 = .ok (.aload_n 1, 1) := by decide +kernel
theorem dX6_elect_73 : decode cX6_elect 73 = .ok (.invokestatic 31, 3) := by decide +kernel
theorem dX6_elect_76 : decode cX6_elect 76 = .ok (.ireturn, 1) := by decide +kernel
theorem dX6_elect_77 : decode cX6_elect 77 = .ok (.aload_n 0, 1) := by decide +kernel
theorem dX6_elect_78 : decode cX6_elect 78 = .ok (.aload_n 1, 1) := by decide +kernel
theorem dX6_elect_79 : decode cX6_elect 79 = .ok (.invokevirtual 35, 3) := by decide +kernel
theorem dX6_elect_82 : decode cX6_elect 82 = .ok (.ireturn, 1) := by decide +kernel
theorem dX6_elect_83 : decode cX6_elect 83 = .ok (.aload_n 0, 1) := by decide +kernel
theorem dX6_elect_84 : decode cX6_elect 84 = .ok (.aload_n 1, 1) := by decide +kernel
theorem dX6_elect_85 : decode cX6_elect 85 = .ok (.invokevirtual 38, 3) := by decide +kernel
theorem dX6_elect_88 : decode cX6_elect 88 = .ok (.aload_n 0, 1) := by decide +kernel
theorem dX6_elect_89 : decode cX6_elect 89 = .ok (.invokevirtual 20, 3) := by decide +kernel
theorem dX6_elect_92 : decode cX6_elect 92 = .ok (.ireturn, 1) := by decide +kernel
theorem dX6_elect_93 : decode cX6_elect 93 = .ok (.iconst (-1), 1) := by decide +kernel
theorem dX6_elect_94 : decode cX6_elect 94 = .ok (.ireturn, 1) := by decide +kernel
theorem dX6_castVotes_0 : decode cX6_castVotes 0 = .ok (.aload_n 0, 1) := by decide +kernel
theorem dX6_castVotes_1 : decode cX6_castVotes 1 = .ok (.getfield 9, 3) := by decide +kernel
theorem dX6_castVotes_4 : decode cX6_castVotes 4 = .ok (.iconst 0, 1) := by decide +kernel
theorem dX6_castVotes_5 : decode cX6_castVotes 5 = .ok (.invokestatic 41, 3) := by decide +kernel
theorem dX6_castVotes_8 : decode cX6_castVotes 8 = .ok (.iconst 0, 1) := by decide +kernel
theorem dX6_castVotes_9 : decode cX6_castVotes 9 = .ok (.istore_n 3, 1) := by decide +kernel
theorem dX6_castVotes_10 : decode cX6_castVotes 10 = .ok (.iload_n 3, 1) := by decide +kernel
theorem dX6_castVotes_11 : decode cX6_castVotes 11 = .ok (.aload_n 1, 1) := by decide +kernel
theorem dX6_castVotes_12 : decode cX6_castVotes 12 = .ok (.getfield 47, 3) := by decide +kernel
theorem dX6_castVotes_15 : decode cX6_castVotes 15 = .ok (.if_icmp .ge 24, 3) := by decide +kernel
theorem dX6_castVotes_18 : decode cX6_castVotes 18 = .ok (.aload_n 0, 1) := by decide +kernel
theorem dX6_castVotes_19 : decode cX6_castVotes 19 = .ok (.getfield 9, 3) := by decide +kernel
theorem dX6_castVotes_22 : decode cX6_castVotes 22 = .ok (.aload_n 1, 1) := by decide +kernel
theorem dX6_castVotes_23 : decode cX6_castVotes 23 = .ok (.iload_n 3, 1) := by decide +kernel
theorem dX6_castVotes_24 : decode cX6_castVotes 24 = .ok (.iload_n 2, 1) := by decide +kernel
theorem dX6_castVotes_25 : decode cX6_castVotes 25 = .ok (.invokestatic 53, 3) := by decide +kernel
theorem dX6_castVotes_28 : decode cX6_castVotes 28 = .ok (.dup2, 1) := by decide +kernel
theorem dX6_castVotes_29 : decode cX6_castVotes 29 = .ok (.iaload, 1) := by decide +kernel
theorem dX6_castVotes_30 : decode cX6_castVotes 30 = .ok (.iconst 1, 1) := by decide +kernel
theorem dX6_castVotes_31 : decode cX6_castVotes 31 = .ok (.iadd, 1) := by decide +kernel
theorem dX6_castVotes_32 : decode cX6_castVotes 32 = .ok (.iastore, 1) := by decide +kernel
theorem dX6_castVotes_33 : decode cX6_castVotes 33 = .ok (.iinc 3 1, 3) := by decide +kernel
theorem dX6_castVotes_36 : decode cX6_castVotes 36 = .ok (.goto (-26), 3) := by decide +kernel
theorem dX6_castVotes_39 : decode cX6_castVotes 39 = .ok (.return_, 1) := by decide +kernel
theorem dX6_dearest_0 : decode cX6_dearest 0 = .ok (.iconst 0, 1) := by decide +kernel
theorem dX6_dearest_1 : decode cX6_dearest 1 = .ok (.istore_n 3, 1) := by decide +kernel
theorem dX6_dearest_2 : decode cX6_dearest 2 = .ok (.iconst 1, 1) := by decide +kernel
theorem dX6_dearest_3 : decode cX6_dearest 3 = .ok (.istore 4, 2) := by decide +kernel
theorem dX6_dearest_5 : decode cX6_dearest 5 = .ok (.iload 4, 2) := by decide +kernel
theorem dX6_dearest_7 : decode cX6_dearest 7 = .ok (.bipush 24, 2) := by decide +kernel
theorem dX6_dearest_9 : decode cX6_dearest 9 = .ok (.if_icmp .gt 54, 3) := by decide +kernel
theorem dX6_dearest_12 : decode cX6_dearest 12 = .ok (.iload_n 2, 1) := by decide +kernel
theorem dX6_dearest_13 : decode cX6_dearest 13 = .ok (.iload 4, 2) := by decide +kernel
theorem dX6_dearest_15 : decode cX6_dearest 15 = .ok (.ishr, 1) := by decide +kernel
theorem dX6_dearest_16 : decode cX6_dearest 16 = .ok (.iconst 1, 1) := by decide +kernel
theorem dX6_dearest_17 : decode cX6_dearest 17 = .ok (.iand, 1) := by decide +kernel
theorem dX6_dearest_18 : decode cX6_dearest 18 = .ok (.iconst 1, 1) := by decide +kernel
theorem dX6_dearest_19 : decode cX6_dearest 19 = .ok (.if_icmp .ne 7, 3) := by decide +kernel
theorem dX6_dearest_22 : decode cX6_dearest 22 = .ok (.iconst 1, 1) := by decide +kernel
theorem dX6_dearest_23 : decode cX6_dearest 23 = .ok (.goto 4, 3) := by decide +kernel
theorem dX6_dearest_26 : decode cX6_dearest 26 = .ok (.iconst 0, 1) := by decide +kernel
theorem dX6_dearest_27 : decode cX6_dearest 27 = .ok (.istore 5, 2) := by decide +kernel
theorem dX6_dearest_29 : decode cX6_dearest 29 = .ok (.iload 5, 2) := by decide +kernel
theorem dX6_dearest_31 : decode cX6_dearest 31 = .ok (.ifCond .eq 26, 3) := by decide +kernel
theorem dX6_dearest_34 : decode cX6_dearest 34 = .ok (.iload_n 3, 1) := by decide +kernel
theorem dX6_dearest_35 : decode cX6_dearest 35 = .ok (.ifCond .eq 19, 3) := by decide +kernel
theorem dX6_dearest_38 : decode cX6_dearest 38 = .ok (.aload_n 0, 1) := by decide +kernel
theorem dX6_dearest_39 : decode cX6_dearest 39 = .ok (.iload_n 1, 1) := by decide +kernel
theorem dX6_dearest_40 : decode cX6_dearest 40 = .ok (.iload 4, 2) := by decide +kernel
theorem dX6_dearest_42 : decode cX6_dearest 42 = .ok (.invokevirtual 57, 3) := by decide +kernel
theorem dX6_dearest_45 : decode cX6_dearest 45 = .ok (.aload_n 0, 1) := by decide +kernel
theorem dX6_dearest_46 : decode cX6_dearest 46 = .ok (.iload_n 1, 1) := by decide +kernel
theorem dX6_dearest_47 : decode cX6_dearest 47 = .ok (.iload_n 3, 1) := by decide +kernel
theorem dX6_dearest_48 : decode cX6_dearest 48 = .ok (.invokevirtual 57, 3) := by decide +kernel
theorem dX6_dearest_51 : decode cX6_dearest 51 = .ok (.if_icmp .le 6, 3) := by decide +kernel
theorem dX6_dearest_54 : decode cX6_dearest 54 = .ok (.iload 4, 2) := by decide +kernel
theorem dX6_dearest_56 : decode cX6_dearest 56 = .ok (.istore_n 3, 1) := by decide +kernel
theorem dX6_dearest_57 : decode cX6_dearest 57 = .ok (.iinc 4 1, 3) := by decide +kernel
theorem dX6_dearest_60 : decode cX6_dearest 60 = .ok (.goto (-55), 3) := by decide +kernel
theorem dX6_dearest_63 : decode cX6_dearest 63 = .ok (.iload_n 3, 1) := by decide +kernel
theorem dX6_dearest_64 : decode cX6_dearest 64 = .ok (.ireturn, 1) := by decide +kernel
theorem dX6_addWorths_0 : decode cX6_addWorths 0 = .ok (.aload_n 0, 1) := by decide +kernel
theorem dX6_addWorths_1 : decode cX6_addWorths 1 = .ok (.getfield 9, 3) := by decide +kernel
theorem dX6_addWorths_4 : decode cX6_addWorths 4 = .ok (.iconst 0, 1) := by decide +kernel
theorem dX6_addWorths_5 : decode cX6_addWorths 5 = .ok (.invokestatic 41, 3) := by decide +kernel
theorem dX6_addWorths_8 : decode cX6_addWorths 8 = .ok (.iconst 1, 1) := by decide +kernel
theorem dX6_addWorths_9 : decode cX6_addWorths 9 = .ok (.istore_n 2, 1) := by decide +kernel
theorem dX6_addWorths_10 : decode cX6_addWorths 10 = .ok (.iload_n 2, 1) := by decide +kernel
theorem dX6_addWorths_11 : decode cX6_addWorths 11 = .ok (.bipush 24, 2) := by decide +kernel
theorem dX6_addWorths_13 : decode cX6_addWorths 13 = .ok (.if_icmp .gt 40, 3) := by decide +kernel
theorem dX6_addWorths_16 : decode cX6_addWorths 16 = .ok (.iconst 0, 1) := by decide +kernel
theorem dX6_addWorths_17 : decode cX6_addWorths 17 = .ok (.istore_n 3, 1) := by decide +kernel
theorem dX6_addWorths_18 : decode cX6_addWorths 18 = .ok (.iload_n 3, 1) := by decide +kernel
theorem dX6_addWorths_19 : decode cX6_addWorths 19 = .ok (.aload_n 1, 1) := by decide +kernel
theorem dX6_addWorths_20 : decode cX6_addWorths 20 = .ok (.getfield 47, 3) := by decide +kernel
theorem dX6_addWorths_23 : decode cX6_addWorths 23 = .ok (.if_icmp .ge 24, 3) := by decide +kernel
theorem dX6_addWorths_26 : decode cX6_addWorths 26 = .ok (.aload_n 0, 1) := by decide +kernel
theorem dX6_addWorths_27 : decode cX6_addWorths 27 = .ok (.getfield 9, 3) := by decide +kernel
theorem dX6_addWorths_30 : decode cX6_addWorths 30 = .ok (.iload_n 2, 1) := by decide +kernel
theorem dX6_addWorths_31 : decode cX6_addWorths 31 = .ok (.dup2, 1) := by decide +kernel
theorem dX6_addWorths_32 : decode cX6_addWorths 32 = .ok (.iaload, 1) := by decide +kernel
theorem dX6_addWorths_33 : decode cX6_addWorths 33 = .ok (.aload_n 1, 1) := by decide +kernel
theorem dX6_addWorths_34 : decode cX6_addWorths 34 = .ok (.iload_n 3, 1) := by decide +kernel
theorem dX6_addWorths_35 : decode cX6_addWorths 35 = .ok (.iload_n 2, 1) := by decide +kernel
theorem dX6_addWorths_36 : decode cX6_addWorths 36 = .ok (.invokevirtual 57, 3) := by decide +kernel
theorem dX6_addWorths_39 : decode cX6_addWorths 39 = .ok (.iadd, 1) := by decide +kernel
theorem dX6_addWorths_40 : decode cX6_addWorths 40 = .ok (.iastore, 1) := by decide +kernel
theorem dX6_addWorths_41 : decode cX6_addWorths 41 = .ok (.iinc 3 1, 3) := by decide +kernel
theorem dX6_addWorths_44 : decode cX6_addWorths 44 = .ok (.goto (-26), 3) := by decide +kernel
theorem dX6_addWorths_47 : decode cX6_addWorths 47 = .ok (.iinc 2 1, 3) := by decide +kernel
theorem dX6_addWorths_50 : decode cX6_addWorths 50 = .ok (.goto (-40), 3) := by decide +kernel
theorem dX6_addWorths_53 : decode cX6_addWorths 53 = .ok (.return_, 1) := by decide +kernel
theorem dX6_addPlaces_0 : decode cX6_addPlaces 0 = .ok (.aload_n 0, 1) := by decide +kernel
theorem dX6_addPlaces_1 : decode cX6_addPlaces 1 = .ok (.getfield 9, 3) := by decide +kernel
theorem dX6_addPlaces_4 : decode cX6_addPlaces 4 = .ok (.iconst 0, 1) := by decide +kernel
theorem dX6_addPlaces_5 : decode cX6_addPlaces 5 = .ok (.invokestatic 41, 3) := by decide +kernel
theorem dX6_addPlaces_8 : decode cX6_addPlaces 8 = .ok (.iconst 1, 1) := by decide +kernel
theorem dX6_addPlaces_9 : decode cX6_addPlaces 9 = .ok (.istore_n 2, 1) := by decide +kernel
theorem dX6_addPlaces_10 : decode cX6_addPlaces 10 = .ok (.iload_n 2, 1) := by decide +kernel
theorem dX6_addPlaces_11 : decode cX6_addPlaces 11 = .ok (.bipush 24, 2) := by decide +kernel
theorem dX6_addPlaces_13 : decode cX6_addPlaces 13 = .ok (.if_icmp .gt 38, 3) := by decide +kernel
theorem dX6_addPlaces_16 : decode cX6_addPlaces 16 = .ok (.iconst 1, 1) := by decide +kernel
theorem dX6_addPlaces_17 : decode cX6_addPlaces 17 = .ok (.istore_n 3, 1) := by decide +kernel
theorem dX6_addPlaces_18 : decode cX6_addPlaces 18 = .ok (.iload_n 3, 1) := by decide +kernel
theorem dX6_addPlaces_19 : decode cX6_addPlaces 19 = .ok (.bipush 24, 2) := by decide +kernel
theorem dX6_addPlaces_21 : decode cX6_addPlaces 21 = .ok (.if_icmp .gt 24, 3) := by decide +kernel
theorem dX6_addPlaces_24 : decode cX6_addPlaces 24 = .ok (.aload_n 0, 1) := by decide +kernel
theorem dX6_addPlaces_25 : decode cX6_addPlaces 25 = .ok (.getfield 9, 3) := by decide +kernel
theorem dX6_addPlaces_28 : decode cX6_addPlaces 28 = .ok (.iload_n 2, 1) := by decide +kernel
theorem dX6_addPlaces_29 : decode cX6_addPlaces 29 = .ok (.dup2, 1) := by decide +kernel
theorem dX6_addPlaces_30 : decode cX6_addPlaces 30 = .ok (.iaload, 1) := by decide +kernel
theorem dX6_addPlaces_31 : decode cX6_addPlaces 31 = .ok (.aload_n 1, 1) := by decide +kernel
theorem dX6_addPlaces_32 : decode cX6_addPlaces 32 = .ok (.iload_n 2, 1) := by decide +kernel
theorem dX6_addPlaces_33 : decode cX6_addPlaces 33 = .ok (.iload_n 3, 1) := by decide +kernel
theorem dX6_addPlaces_34 : decode cX6_addPlaces 34 = .ok (.invokevirtual 61, 3) := by decide +kernel
theorem dX6_addPlaces_37 : decode cX6_addPlaces 37 = .ok (.iadd, 1) := by decide +kernel
theorem dX6_addPlaces_38 : decode cX6_addPlaces 38 = .ok (.iastore, 1) := by decide +kernel
theorem dX6_addPlaces_39 : decode cX6_addPlaces 39 = .ok (.iinc 3 1, 3) := by decide +kernel
theorem dX6_addPlaces_42 : decode cX6_addPlaces 42 = .ok (.goto (-24), 3) := by decide +kernel
theorem dX6_addPlaces_45 : decode cX6_addPlaces 45 = .ok (.iinc 2 1, 3) := by decide +kernel
theorem dX6_addPlaces_48 : decode cX6_addPlaces 48 = .ok (.goto (-38), 3) := by decide +kernel
theorem dX6_addPlaces_51 : decode cX6_addPlaces 51 = .ok (.return_, 1) := by decide +kernel
theorem dX6_takeLeastWorths_0 : decode cX6_takeLeastWorths 0 = .ok (.iconst 1, 1) := by decide +kernel
theorem dX6_takeLeastWorths_1 : decode cX6_takeLeastWorths 1 = .ok (.istore_n 2, 1) := by decide +kernel
theorem dX6_takeLeastWorths_2 : decode cX6_takeLeastWorths 2 = .ok (.iload_n 2, 1) := by decide +kernel
theorem dX6_takeLeastWorths_3 : decode cX6_takeLeastWorths 3 = .ok (.bipush 24, 2) := by decide +kernel
theorem dX6_takeLeastWorths_5 : decode cX6_takeLeastWorths 5 = .ok (.if_icmp .gt 58, 3) := by decide +kernel
theorem dX6_takeLeastWorths_8 : decode cX6_takeLeastWorths 8 = .ok (.aload_n 0, 1) := by decide +kernel
theorem dX6_takeLeastWorths_9 : decode cX6_takeLeastWorths 9 = .ok (.getfield 9, 3) := by decide +kernel
theorem dX6_takeLeastWorths_12 : decode cX6_takeLeastWorths 12 = .ok (.iload_n 2, 1) := by decide +kernel
theorem dX6_takeLeastWorths_13 : decode cX6_takeLeastWorths 13 = .ok (.aload_n 1, 1) := by decide +kernel
theorem dX6_takeLeastWorths_14 : decode cX6_takeLeastWorths 14 = .ok (.iconst 0, 1) := by decide +kernel
theorem dX6_takeLeastWorths_15 : decode cX6_takeLeastWorths 15 = .ok (.iload_n 2, 1) := by decide +kernel
theorem dX6_takeLeastWorths_16 : decode cX6_takeLeastWorths 16 = .ok (.invokevirtual 57, 3) := by decide +kernel
theorem dX6_takeLeastWorths_19 : decode cX6_takeLeastWorths 19 = .ok (.iastore, 1) := by decide +kernel
theorem dX6_takeLeastWorths_20 : decode cX6_takeLeastWorths 20 = .ok (.iconst 1, 1) := by decide +kernel
theorem dX6_takeLeastWorths_21 : decode cX6_takeLeastWorths 21 = .ok (.istore_n 3, 1) := by decide +kernel
theorem dX6_takeLeastWorths_22 : decode cX6_takeLeastWorths 22 = .ok (.iload_n 3, 1) := by decide +kernel
theorem dX6_takeLeastWorths_23 : decode cX6_takeLeastWorths 23 = .ok (.aload_n 1, 1) := by decide +kernel
theorem dX6_takeLeastWorths_24 : decode cX6_takeLeastWorths 24 = .ok (.getfield 47, 3) := by decide +kernel
theorem dX6_takeLeastWorths_27 : decode cX6_takeLeastWorths 27 = .ok (.if_icmp .ge 30, 3) := by decide +kernel
theorem dX6_takeLeastWorths_30 : decode cX6_takeLeastWorths 30 = .ok (.aload_n 0, 1) := by decide +kernel
theorem dX6_takeLeastWorths_31 : decode cX6_takeLeastWorths 31 = .ok (.getfield 9, 3) := by decide +kernel
theorem dX6_takeLeastWorths_34 : decode cX6_takeLeastWorths 34 = .ok (.iload_n 2, 1) := by decide +kernel
theorem dX6_takeLeastWorths_35 : decode cX6_takeLeastWorths 35 = .ok (.aload_n 0, 1) := by decide +kernel
theorem dX6_takeLeastWorths_36 : decode cX6_takeLeastWorths 36 = .ok (.getfield 9, 3) := by decide +kernel
theorem dX6_takeLeastWorths_39 : decode cX6_takeLeastWorths 39 = .ok (.iload_n 2, 1) := by decide +kernel
theorem dX6_takeLeastWorths_40 : decode cX6_takeLeastWorths 40 = .ok (.iaload, 1) := by decide +kernel
theorem dX6_takeLeastWorths_41 : decode cX6_takeLeastWorths 41 = .ok (.aload_n 1, 1) := by decide +kernel
theorem dX6_takeLeastWorths_42 : decode cX6_takeLeastWorths 42 = .ok (.iload_n 3, 1) := by decide +kernel
theorem dX6_takeLeastWorths_43 : decode cX6_takeLeastWorths 43 = .ok (.iload_n 2, 1) := by decide +kernel
theorem dX6_takeLeastWorths_44 : decode cX6_takeLeastWorths 44 = .ok (.invokevirtual 57, 3) := by decide +kernel
theorem dX6_takeLeastWorths_47 : decode cX6_takeLeastWorths 47 = .ok (.invokestatic 64, 3) := by decide +kernel
theorem dX6_takeLeastWorths_50 : decode cX6_takeLeastWorths 50 = .ok (.iastore, 1) := by decide +kernel
theorem dX6_takeLeastWorths_51 : decode cX6_takeLeastWorths 51 = .ok (.iinc 3 1, 3) := by decide +kernel
theorem dX6_takeLeastWorths_54 : decode cX6_takeLeastWorths 54 = .ok (.goto (-32), 3) := by decide +kernel
theorem dX6_takeLeastWorths_57 : decode cX6_takeLeastWorths 57 = .ok (.iinc 2 1, 3) := by decide +kernel
theorem dX6_takeLeastWorths_60 : decode cX6_takeLeastWorths 60 = .ok (.goto (-58), 3) := by decide +kernel
theorem dX6_takeLeastWorths_63 : decode cX6_takeLeastWorths 63 = .ok (.return_, 1) := by decide +kernel
theorem dX6_mostPoints_0 : decode cX6_mostPoints 0 = .ok (.iconst 1, 1) := by decide +kernel
theorem dX6_mostPoints_1 : decode cX6_mostPoints 1 = .ok (.istore_n 1, 1) := by decide +kernel
theorem dX6_mostPoints_2 : decode cX6_mostPoints 2 = .ok (.iconst 2, 1) := by decide +kernel
theorem dX6_mostPoints_3 : decode cX6_mostPoints 3 = .ok (.istore_n 2, 1) := by decide +kernel
theorem dX6_mostPoints_4 : decode cX6_mostPoints 4 = .ok (.iload_n 2, 1) := by decide +kernel
theorem dX6_mostPoints_5 : decode cX6_mostPoints 5 = .ok (.bipush 24, 2) := by decide +kernel
theorem dX6_mostPoints_7 : decode cX6_mostPoints 7 = .ok (.if_icmp .gt 26, 3) := by decide +kernel
theorem dX6_mostPoints_10 : decode cX6_mostPoints 10 = .ok (.aload_n 0, 1) := by decide +kernel
theorem dX6_mostPoints_11 : decode cX6_mostPoints 11 = .ok (.getfield 9, 3) := by decide +kernel
theorem dX6_mostPoints_14 : decode cX6_mostPoints 14 = .ok (.iload_n 2, 1) := by decide +kernel
theorem dX6_mostPoints_15 : decode cX6_mostPoints 15 = .ok (.iaload, 1) := by decide +kernel
theorem dX6_mostPoints_16 : decode cX6_mostPoints 16 = .ok (.aload_n 0, 1) := by decide +kernel
theorem dX6_mostPoints_17 : decode cX6_mostPoints 17 = .ok (.getfield 9, 3) := by decide +kernel
theorem dX6_mostPoints_20 : decode cX6_mostPoints 20 = .ok (.iload_n 1, 1) := by decide +kernel
theorem dX6_mostPoints_21 : decode cX6_mostPoints 21 = .ok (.iaload, 1) := by decide +kernel
theorem dX6_mostPoints_22 : decode cX6_mostPoints 22 = .ok (.if_icmp .le 5, 3) := by decide +kernel
theorem dX6_mostPoints_25 : decode cX6_mostPoints 25 = .ok (.iload_n 2, 1) := by decide +kernel
theorem dX6_mostPoints_26 : decode cX6_mostPoints 26 = .ok (.istore_n 1, 1) := by decide +kernel
theorem dX6_mostPoints_27 : decode cX6_mostPoints 27 = .ok (.iinc 2 1, 3) := by decide +kernel
theorem dX6_mostPoints_30 : decode cX6_mostPoints 30 = .ok (.goto (-26), 3) := by decide +kernel
theorem dX6_mostPoints_33 : decode cX6_mostPoints 33 = .ok (.iload_n 1, 1) := by decide +kernel
theorem dX6_mostPoints_34 : decode cX6_mostPoints 34 = .ok (.ireturn, 1) := by decide +kernel
theorem dX6_beatsAll_0 : decode cX6_beatsAll 0 = .ok (.iconst 1, 1) := by decide +kernel
theorem dX6_beatsAll_1 : decode cX6_beatsAll 1 = .ok (.istore_n 1, 1) := by decide +kernel
theorem dX6_beatsAll_2 : decode cX6_beatsAll 2 = .ok (.iload_n 1, 1) := by decide +kernel
theorem dX6_beatsAll_3 : decode cX6_beatsAll 3 = .ok (.bipush 24, 2) := by decide +kernel
theorem dX6_beatsAll_5 : decode cX6_beatsAll 5 = .ok (.if_icmp .gt 51, 3) := by decide +kernel
theorem dX6_beatsAll_8 : decode cX6_beatsAll 8 = .ok (.iconst 0, 1) := by decide +kernel
theorem dX6_beatsAll_9 : decode cX6_beatsAll 9 = .ok (.istore_n 2, 1) := by decide +kernel
theorem dX6_beatsAll_10 : decode cX6_beatsAll 10 = .ok (.iconst 1, 1) := by decide +kernel
theorem dX6_beatsAll_11 : decode cX6_beatsAll 11 = .ok (.istore_n 3, 1) := by decide +kernel
theorem dX6_beatsAll_12 : decode cX6_beatsAll 12 = .ok (.iload_n 3, 1) := by decide +kernel
theorem dX6_beatsAll_13 : decode cX6_beatsAll 13 = .ok (.bipush 24, 2) := by decide +kernel
theorem dX6_beatsAll_15 : decode cX6_beatsAll 15 = .ok (.if_icmp .gt 27, 3) := by decide +kernel
theorem dX6_beatsAll_18 : decode cX6_beatsAll 18 = .ok (.aload_n 0, 1) := by decide +kernel
theorem dX6_beatsAll_19 : decode cX6_beatsAll 19 = .ok (.iload_n 1, 1) := by decide +kernel
theorem dX6_beatsAll_20 : decode cX6_beatsAll 20 = .ok (.iload_n 3, 1) := by decide +kernel
theorem dX6_beatsAll_21 : decode cX6_beatsAll 21 = .ok (.invokevirtual 61, 3) := by decide +kernel
theorem dX6_beatsAll_24 : decode cX6_beatsAll 24 = .ok (.aload_n 0, 1) := by decide +kernel
theorem dX6_beatsAll_25 : decode cX6_beatsAll 25 = .ok (.iload_n 3, 1) := by decide +kernel
theorem dX6_beatsAll_26 : decode cX6_beatsAll 26 = .ok (.iload_n 1, 1) := by decide +kernel
theorem dX6_beatsAll_27 : decode cX6_beatsAll 27 = .ok (.invokevirtual 61, 3) := by decide +kernel
theorem dX6_beatsAll_30 : decode cX6_beatsAll 30 = .ok (.if_icmp .le 6, 3) := by decide +kernel
theorem dX6_beatsAll_33 : decode cX6_beatsAll 33 = .ok (.iinc 2 1, 3) := by decide +kernel
theorem dX6_beatsAll_36 : decode cX6_beatsAll 36 = .ok (.iinc 3 1, 3) := by decide +kernel
theorem dX6_beatsAll_39 : decode cX6_beatsAll 39 = .ok (.goto (-27), 3) := by decide +kernel
theorem dX6_beatsAll_42 : decode cX6_beatsAll 42 = .ok (.iload_n 2, 1) := by decide +kernel
theorem dX6_beatsAll_43 : decode cX6_beatsAll 43 = .ok (.bipush 23, 2) := by decide +kernel
theorem dX6_beatsAll_45 : decode cX6_beatsAll 45 = .ok (.if_icmp .ne 5, 3) := by decide +kernel
theorem dX6_beatsAll_48 : decode cX6_beatsAll 48 = .ok (.iload_n 1, 1) := by decide +kernel
theorem dX6_beatsAll_49 : decode cX6_beatsAll 49 = .ok (.ireturn, 1) := by decide +kernel
theorem dX6_beatsAll_50 : decode cX6_beatsAll 50 = .ok (.iinc 1 1, 3) := by decide +kernel
theorem dX6_beatsAll_53 : decode cX6_beatsAll 53 = .ok (.goto (-51), 3) := by decide +kernel
theorem dX6_beatsAll_56 : decode cX6_beatsAll 56 = .ok (.iconst (-1), 1) := by decide +kernel
theorem dX6_beatsAll_57 : decode cX6_beatsAll 57 = .ok (.ireturn, 1) := by decide +kernel
theorem dX6_runOff_0 : decode cX6_runOff 0 = .ok (.ldc 15, 2) := by decide +kernel
theorem dX6_runOff_2 : decode cX6_runOff 2 = .ok (.istore_n 2, 1) := by decide +kernel
theorem dX6_runOff_3 : decode cX6_runOff 3 = .ok (.iconst 1, 1) := by decide +kernel
theorem dX6_runOff_4 : decode cX6_runOff 4 = .ok (.istore_n 3, 1) := by decide +kernel
theorem dX6_runOff_5 : decode cX6_runOff 5 = .ok (.iload_n 3, 1) := by decide +kernel
theorem dX6_runOff_6 : decode cX6_runOff 6 = .ok (.bipush 24, 2) := by decide +kernel
theorem dX6_runOff_8 : decode cX6_runOff 8 = .ok (.if_icmp .ge 52, 3) := by decide +kernel
theorem dX6_runOff_11 : decode cX6_runOff 11 = .ok (.aload_n 0, 1) := by decide +kernel
theorem dX6_runOff_12 : decode cX6_runOff 12 = .ok (.aload_n 1, 1) := by decide +kernel
theorem dX6_runOff_13 : decode cX6_runOff 13 = .ok (.iload_n 2, 1) := by decide +kernel
theorem dX6_runOff_14 : decode cX6_runOff 14 = .ok (.invokevirtual 16, 3) := by decide +kernel
theorem dX6_runOff_17 : decode cX6_runOff 17 = .ok (.aload_n 0, 1) := by decide +kernel
theorem dX6_runOff_18 : decode cX6_runOff 18 = .ok (.invokevirtual 20, 3) := by decide +kernel
theorem dX6_runOff_21 : decode cX6_runOff 21 = .ok (.istore 4, 2) := by decide +kernel
theorem dX6_runOff_23 : decode cX6_runOff 23 = .ok (.iconst 2, 1) := by decide +kernel
theorem dX6_runOff_24 : decode cX6_runOff 24 = .ok (.aload_n 0, 1) := by decide +kernel
theorem dX6_runOff_25 : decode cX6_runOff 25 = .ok (.getfield 9, 3) := by decide +kernel
theorem dX6_runOff_28 : decode cX6_runOff 28 = .ok (.iload 4, 2) := by decide +kernel
theorem dX6_runOff_30 : decode cX6_runOff 30 = .ok (.iaload, 1) := by decide +kernel
theorem dX6_runOff_31 : decode cX6_runOff 31 = .ok (.imul, 1) := by decide +kernel
theorem dX6_runOff_32 : decode cX6_runOff 32 = .ok (.aload_n 1, 1) := by decide +kernel
theorem dX6_runOff_33 : decode cX6_runOff 33 = .ok (.getfield 47, 3) := by decide +kernel
theorem dX6_runOff_36 : decode cX6_runOff 36 = .ok (.if_icmp .le 6, 3) := by decide +kernel
theorem dX6_runOff_39 : decode cX6_runOff 39 = .ok (.iload 4, 2) := by decide +kernel
theorem dX6_runOff_41 : decode cX6_runOff 41 = .ok (.ireturn, 1) := by decide +kernel
theorem dX6_runOff_42 : decode cX6_runOff 42 = .ok (.iload_n 2, 1) := by decide +kernel
theorem dX6_runOff_43 : decode cX6_runOff 43 = .ok (.iconst 1, 1) := by decide +kernel
theorem dX6_runOff_44 : decode cX6_runOff 44 = .ok (.aload_n 0, 1) := by decide +kernel
theorem dX6_runOff_45 : decode cX6_runOff 45 = .ok (.iload_n 2, 1) := by decide +kernel
theorem dX6_runOff_46 : decode cX6_runOff 46 = .ok (.invokevirtual 69, 3) := by decide +kernel
theorem dX6_runOff_49 : decode cX6_runOff 49 = .ok (.ishl, 1) := by decide +kernel
theorem dX6_runOff_50 : decode cX6_runOff 50 = .ok (.iconst (-1), 1) := by decide +kernel
theorem dX6_runOff_51 : decode cX6_runOff 51 = .ok (.ixor, 1) := by decide +kernel
theorem dX6_runOff_52 : decode cX6_runOff 52 = .ok (.iand, 1) := by decide +kernel
theorem dX6_runOff_53 : decode cX6_runOff 53 = .ok (.istore_n 2, 1) := by decide +kernel
theorem dX6_runOff_54 : decode cX6_runOff 54 = .ok (.iinc 3 1, 3) := by decide +kernel
theorem dX6_runOff_57 : decode cX6_runOff 57 = .ok (.goto (-52), 3) := by decide +kernel
theorem dX6_runOff_60 : decode cX6_runOff 60 = .ok (.iload_n 2, 1) := by decide +kernel
theorem dX6_runOff_61 : decode cX6_runOff 61 = .ok (.invokestatic 73, 3) := by decide +kernel
theorem dX6_runOff_64 : decode cX6_runOff 64 = .ok (.ireturn, 1) := by decide +kernel
theorem dX6_fewestPoints_0 : decode cX6_fewestPoints 0 = .ok (.iconst 0, 1) := by decide +kernel
theorem dX6_fewestPoints_1 : decode cX6_fewestPoints 1 = .ok (.istore_n 2, 1) := by decide +kernel
theorem dX6_fewestPoints_2 : decode cX6_fewestPoints 2 = .ok (.bipush 24, 2) := by decide +kernel
theorem dX6_fewestPoints_4 : decode cX6_fewestPoints 4 = .ok (.istore_n 3, 1) := by decide +kernel
theorem dX6_fewestPoints_5 : decode cX6_fewestPoints 5 = .ok (.iload_n 3, 1) := by decide +kernel
theorem dX6_fewestPoints_6 : decode cX6_fewestPoints 6 = .ok (.iconst 1, 1) := by decide +kernel
theorem dX6_fewestPoints_7 : decode cX6_fewestPoints 7 = .ok (.if_icmp .lt 51, 3) := by decide +kernel
theorem dX6_fewestPoints_10 : decode cX6_fewestPoints 10 = .ok (.iload_n 1, 1) := by decide +kernel
theorem dX6_fewestPoints_11 : decode cX6_fewestPoints 11 = .ok (.iload_n 3, 1) := by decide +kernel
theorem dX6_fewestPoints_12 : decode cX6_fewestPoints 12 = .ok (.ishr, 1) := by decide +kernel
theorem dX6_fewestPoints_13 : decode cX6_fewestPoints 13 = .ok (.iconst 1, 1) := by decide +kernel
theorem dX6_fewestPoints_14 : decode cX6_fewestPoints 14 = .ok (.iand, 1) := by decide +kernel
theorem dX6_fewestPoints_15 : decode cX6_fewestPoints 15 = .ok (.iconst 1, 1) := by decide +kernel
theorem dX6_fewestPoints_16 : decode cX6_fewestPoints 16 = .ok (.if_icmp .ne 7, 3) := by decide +kernel
theorem dX6_fewestPoints_19 : decode cX6_fewestPoints 19 = .ok (.iconst 1, 1) := by decide +kernel
theorem dX6_fewestPoints_20 : decode cX6_fewestPoints 20 = .ok (.goto 4, 3) := by decide +kernel
theorem dX6_fewestPoints_23 : decode cX6_fewestPoints 23 = .ok (.iconst 0, 1) := by decide +kernel
theorem dX6_fewestPoints_24 : decode cX6_fewestPoints 24 = .ok (.istore 4, 2) := by decide +kernel
theorem dX6_fewestPoints_26 : decode cX6_fewestPoints 26 = .ok (.iload 4, 2) := by decide +kernel
theorem dX6_fewestPoints_28 : decode cX6_fewestPoints 28 = .ok (.ifCond .eq 24, 3) := by decide +kernel
theorem dX6_fewestPoints_31 : decode cX6_fewestPoints 31 = .ok (.iload_n 2, 1) := by decide +kernel
theorem dX6_fewestPoints_32 : decode cX6_fewestPoints 32 = .ok (.ifCond .eq 18, 3) := by decide +kernel
theorem dX6_fewestPoints_35 : decode cX6_fewestPoints 35 = .ok (.aload_n 0, 1) := by decide +kernel
theorem dX6_fewestPoints_36 : decode cX6_fewestPoints 36 = .ok (.getfield 9, 3) := by decide +kernel
theorem dX6_fewestPoints_39 : decode cX6_fewestPoints 39 = .ok (.iload_n 3, 1) := by decide +kernel
theorem dX6_fewestPoints_40 : decode cX6_fewestPoints 40 = .ok (.iaload, 1) := by decide +kernel
theorem dX6_fewestPoints_41 : decode cX6_fewestPoints 41 = .ok (.aload_n 0, 1) := by decide +kernel
theorem dX6_fewestPoints_42 : decode cX6_fewestPoints 42 = .ok (.getfield 9, 3) := by decide +kernel
theorem dX6_fewestPoints_45 : decode cX6_fewestPoints 45 = .ok (.iload_n 2, 1) := by decide +kernel
theorem dX6_fewestPoints_46 : decode cX6_fewestPoints 46 = .ok (.iaload, 1) := by decide +kernel
theorem dX6_fewestPoints_47 : decode cX6_fewestPoints 47 = .ok (.if_icmp .ge 5, 3) := by decide +kernel
theorem dX6_fewestPoints_50 : decode cX6_fewestPoints 50 = .ok (.iload_n 3, 1) := by decide +kernel
theorem dX6_fewestPoints_51 : decode cX6_fewestPoints 51 = .ok (.istore_n 2, 1) := by decide +kernel
theorem dX6_fewestPoints_52 : decode cX6_fewestPoints 52 = .ok (.iinc 3 (-1), 3) := by decide +kernel
theorem dX6_fewestPoints_55 : decode cX6_fewestPoints 55 = .ok (.goto (-50), 3) := by decide +kernel
theorem dX6_fewestPoints_58 : decode cX6_fewestPoints 58 = .ok (.iload_n 2, 1) := by decide +kernel
theorem dX6_fewestPoints_59 : decode cX6_fewestPoints 59 = .ok (.ireturn, 1) := by decide +kernel
