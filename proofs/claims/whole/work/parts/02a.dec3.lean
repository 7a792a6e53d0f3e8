theorem dX8_init_0 : decode cX8_init 0 = .ok (.aload_n 0, 1) := by decide +kernel
theorem dX8_init_1 : decode cX8_init 1 = .ok (.invokespecial 1, 3) := by decide +kernel
theorem dX8_init_4 : decode cX8_init 4 = .ok (.aload_n 0, 1) := by decide +kernel
theorem dX8_init_5 : decode cX8_init 5 = .ok (.new 7, 3) := by decide +kernel
theorem dX8_init_8 : decode cX8_init 8 = .ok (.dup, 1) := by decide +kernel
theorem dX8_init_9 : decode cX8_init 9 = .ok (.invokespecial 9, 3) := by decide +kernel
theorem dX8_init_12 : decode cX8_init 12 = .ok (.putfield 10, 3) := by decide +kernel
theorem dX8_init_15 : decode cX8_init 15 = .ok (.aload_n 0, 1) := by decide +kernel
theorem dX8_init_16 : decode cX8_init 16 = .ok (.new 16, 3) := by decide +kernel
theorem dX8_init_19 : decode cX8_init 19 = .ok (.dup, 1) := by decide +kernel
theorem dX8_init_20 : decode cX8_init 20 = .ok (.invokespecial 18, 3) := by decide +kernel
theorem dX8_init_23 : decode cX8_init 23 = .ok (.putfield 19, 3) := by decide +kernel
theorem dX8_init_26 : decode cX8_init 26 = .ok (.aload_n 0, 1) := by decide +kernel
theorem dX8_init_27 : decode cX8_init 27 = .ok (.new 23, 3) := by decide +kernel
theorem dX8_init_30 : decode cX8_init 30 = .ok (.dup, 1) := by decide +kernel
theorem dX8_init_31 : decode cX8_init 31 = .ok (.invokespecial 25, 3) := by decide +kernel
theorem dX8_init_34 : decode cX8_init 34 = .ok (.putfield 26, 3) := by decide +kernel
theorem dX8_init_37 : decode cX8_init 37 = .ok (.aload_n 0, 1) := by decide +kernel
theorem dX8_init_38 : decode cX8_init 38 = .ok (.new 30, 3) := by decide +kernel
theorem dX8_init_41 : decode cX8_init 41 = .ok (.dup, 1) := by decide +kernel
theorem dX8_init_42 : decode cX8_init 42 = .ok (.invokespecial 32, 3) := by decide +kernel
theorem dX8_init_45 : decode cX8_init 45 = .ok (.putfield 33, 3) := by decide +kernel
theorem dX8_init_48 : decode cX8_init 48 = .ok (.aload_n 0, 1) := by decide +kernel
theorem dX8_init_49 : decode cX8_init 49 = .ok (.new 37, 3) := by decide +kernel
theorem dX8_init_52 : decode cX8_init 52 = .ok (.dup, 1) := by decide +kernel
theorem dX8_init_53 : decode cX8_init 53 = .ok (.invokespecial 39, 3) := by decide +kernel
theorem dX8_init_56 : decode cX8_init 56 = .ok (.putfield 40, 3) := by decide +kernel
theorem dX8_init_59 : decode cX8_init 59 = .ok (.aload_n 0, 1) := by decide +kernel
theorem dX8_init_60 : decode cX8_init 60 = .ok (.new 44, 3) := by decide +kernel
theorem dX8_init_63 : decode cX8_init 63 = .ok (.dup, 1) := by decide +kernel
theorem dX8_init_64 : decode cX8_init 64 = .ok (.invokespecial 46, 3) := by decide +kernel
theorem dX8_init_67 : decode cX8_init 67 = .ok (.putfield 47, 3) := by decide +kernel
theorem dX8_init_70 : decode cX8_init 70 = .ok (.aload_n 0, 1) := by decide +kernel
theorem dX8_init_71 : decode cX8_init 71 = .ok (.new 51, 3) := by decide +kernel
theorem dX8_init_74 : decode cX8_init 74 = .ok (.dup, 1) := by decide +kernel
theorem dX8_init_75 : decode cX8_init 75 = .ok (.invokespecial 53, 3) := by decide +kernel
theorem dX8_init_78 : decode cX8_init 78 = .ok (.putfield 54, 3) := by decide +kernel
theorem dX8_init_81 : decode cX8_init 81 = .ok (.aload_n 0, 1) := by decide +kernel
theorem dX8_init_82 : decode cX8_init 82 = .ok (.new 51, 3) := by decide +kernel
theorem dX8_init_85 : decode cX8_init 85 = .ok (.dup, 1) := by decide +kernel
theorem dX8_init_86 : decode cX8_init 86 = .ok (.invokespecial 53, 3) := by decide +kernel
theorem dX8_init_89 : decode cX8_init 89 = .ok (.putfield 58, 3) := by decide +kernel
theorem dX8_init_92 : decode cX8_init 92 = .ok (.return_, 1) := by decide +kernel
theorem dX8_feed_0 : decode cX8_feed 0 = .ok (.aload_n 0, 1) := by decide +kernel
theorem dX8_feed_1 : decode cX8_feed 1 = .ok (.getfield 10, 3) := by decide +kernel
theorem dX8_feed_4 : decode cX8_feed 4 = .ok (.lload_n 1, 1) := by decide +kernel
theorem dX8_feed_5 : decode cX8_feed 5 = .ok (.invokevirtual 61, 3) := by decide +kernel
theorem dX8_feed_8 : decode cX8_feed 8 = .ok (.aload_n 0, 1) := by decide +kernel
theorem dX8_feed_9 : decode cX8_feed 9 = .ok (.getfield 10, 3) := by decide +kernel
theorem dX8_feed_12 : decode cX8_feed 12 = .ok (.lload_n 3, 1) := by decide +kernel
theorem dX8_feed_13 : decode cX8_feed 13 = .ok (.invokevirtual 61, 3) := by decide +kernel
theorem dX8_feed_16 : decode cX8_feed 16 = .ok (.aload_n 0, 1) := by decide +kernel
theorem dX8_feed_17 : decode cX8_feed 17 = .ok (.getfield 10, 3) := by decide +kernel
theorem dX8_feed_20 : decode cX8_feed 20 = .ok (.lload 5, 2) := by decide +kernel
theorem dX8_feed_22 : decode cX8_feed 22 = .ok (.invokevirtual 61, 3) := by decide +kernel
theorem dX8_feed_25 : decode cX8_feed 25 = .ok (.aload_n 0, 1) := by decide +kernel
theorem dX8_feed_26 : decode cX8_feed 26 = .ok (.getfield 10, 3) := by decide +kernel
theorem dX8_feed_29 : decode cX8_feed 29 = .ok (.getfield 65, 3) := by decide +kernel
theorem dX8_feed_32 : decode cX8_feed 32 = .ok (.ireturn, 1) := by decide +kernel
theorem dX8_book_0 : decode cX8_book 0 = .ok (.aload_n 0, 1) := by decide +kernel
theorem dX8_book_1 : decode cX8_book 1 = .ok (.getfield 19, 3) := by decide +kernel
theorem dX8_book_4 : decode cX8_book 4 = .ok (.aload_n 0, 1) := by decide +kernel
theorem dX8_book_5 : decode cX8_book 5 = .ok (.getfield 10, 3) := by decide +kernel
theorem dX8_book_8 : decode cX8_book 8 = .ok (.aload_n 0, 1) := by decide +kernel
theorem dX8_book_9 : decode cX8_book 9 = .ok (.getfield 58, 3) := by decide +kernel
theorem dX8_book_12 : decode cX8_book 12 = .ok (.invokevirtual 69, 3) := by decide +kernel
theorem dX8_book_15 : decode cX8_book 15 = .ok (.istore_n 1, 1) := by decide +kernel
theorem dX8_book_16 : decode cX8_book 16 = .ok (.aload_n 0, 1) := by decide +kernel
theorem dX8_book_17 : decode cX8_book 17 = .ok (.getfield 10, 3) := by decide +kernel
theorem dX8_book_20 : decode cX8_book 20 = .ok (.iconst 0, 1) := by decide +kernel
theorem dX8_book_21 : decode cX8_book 21 = .ok (.putfield 65, 3) := by decide +kernel
theorem dX8_book_24 : decode cX8_book 24 = .ok (.iload_n 1, 1) := by decide +kernel
theorem dX8_book_25 : decode cX8_book 25 = .ok (.ifCond .ne 7, 3) := by decide +kernel
theorem dX8_book_28 : decode cX8_book 28 = .ok (.aload_n 0, 1) := by decide +kernel
theorem dX8_book_29 : decode cX8_book 29 = .ok (.invokevirtual 73, 3) := by decide +kernel
theorem dX8_book_32 : decode cX8_book 32 = .ok (.iload_n 1, 1) := by decide +kernel
theorem dX8_book_33 : decode cX8_book 33 = .ok (.ireturn, 1) := by decide +kernel
theorem dX8_shown_0 : decode cX8_shown 0 = .ok (.aload_n 0, 1) := by decide +kernel
theorem dX8_shown_1 : decode cX8_shown 1 = .ok (.iload_n 1, 1) := by decide +kernel
theorem dX8_shown_2 : decode cX8_shown 2 = .ok (.invokevirtual 76, 3) := by decide +kernel
theorem dX8_shown_5 : decode cX8_shown 5 = .ok (.astore_n 3, 1) := by decide +kernel
theorem dX8_shown_6 : decode cX8_shown 6 = .ok (.aload_n 3, 1) := by decide +kernel
theorem dX8_shown_7 : decode cX8_shown 7 = .ok (.ifnull 13, 3) := by decide +kernel
theorem dX8_shown_10 : decode cX8_shown 10 = .ok (.iload_n 2, 1) := by decide +kernel
theorem dX8_shown_11 : decode cX8_shown 11 = .ok (.iconst 0, 1) := by decide +kernel
theorem dX8_shown_12 : decode cX8_shown 12 = .ok (.ldc 80, 2) := by decide +kernel
theorem dX8_shown_14 : decode cX8_shown 14 = .ok (.invokestatic 81, 3) := by decide +kernel
theorem dX8_shown_17 : decode cX8_shown 17 = .ok (.ifCond .ne 11, 3) := by decide +kernel
theorem dX8_shown_20 : decode cX8_shown 20 = .ok (.new 85, 3) := by decide +kernel
theorem dX8_shown_23 : decode cX8_shown 23 = .ok (.dup, 1) := by decide +kernel
theorem dX8_shown_24 : decode cX8_shown 24 = .ok (.invokespecial 87, 3) := by decide +kernel
theorem dX8_shown_27 : decode cX8_shown 27 = .ok (.athrow, 1) := by decide +kernel
theorem dX8_shown_28 : decode cX8_shown 28 = .ok (.aload_n 3, 1) := by decide +kernel
theorem dX8_shown_29 : decode cX8_shown 29 = .ok (.iload_n 2, 1) := by decide +kernel
theorem dX8_shown_30 : decode cX8_shown 30 = .ok (.invokevirtual 88, 3) := by decide +kernel
theorem dX8_shown_33 : decode cX8_shown 33 = .ok (.ireturn, 1) := by decide +kernel
theorem dX8_moment_0 : decode cX8_moment 0 = .ok (.aload_n 0, 1) := by decide +kernel
theorem dX8_moment_1 : decode cX8_moment 1 = .ok (.iload_n 1, 1) := by decide +kernel
theorem dX8_moment_2 : decode cX8_moment 2 = .ok (.invokevirtual 76, 3) := by decide +kernel
theorem dX8_moment_5 : decode cX8_moment 5 = .ok (.astore 5, 2) := by decide +kernel
theorem dX8_moment_7 : decode cX8_moment 7 = .ok (.iload_n 2, 1) := by decide +kernel
theorem dX8_moment_8 : decode cX8_moment 8 = .ok (.iload_n 3, 1) := by decide +kernel
theorem dX8_moment_9 : decode cX8_moment 9 = .ok (.invokestatic 94, 3) := by decide +kernel
theorem dX8_moment_12 : decode cX8_moment 12 = .ok (.istore 6, 2) := by decide +kernel
theorem dX8_moment_14 : decode cX8_moment 14 = .ok (.aload 5, 2) := by decide +kernel
theorem dX8_moment_16 : decode cX8_moment 16 = .ok (.ifnull 9, 3) := by decide +kernel
theorem dX8_moment_19 : decode cX8_moment 19 = .ok (.iload 6, 2) := by decide +kernel
theorem dX8_moment_21 : decode cX8_moment 21 = .ok (.iconst (-1), 1) := by decide +kernel
theorem dX8_moment_22 : decode cX8_moment 22 = .ok (.if_icmp .ne 5, 3) := by decide +kernel
theorem dX8_moment_25 : decode cX8_moment 25 = .ok (.iconst (-1), 1) := by decide +kernel
theorem dX8_moment_26 : decode cX8_moment 26 = .ok (.ireturn, 1) := by decide +kernel
theorem dX8_moment_27 : decode cX8_moment 27 = .ok (.iload 4, 2) := by decide +kernel
theorem dX8_moment_29 : decode cX8_moment 29 = .ok (.tableswitch 73 0 2 #[27, 43, 51], 27) := by decide +kernel
theorem dX8_moment_56 : decode cX8_moment 56 = .ok (.aload 5, 2) := by decide +kernel
theorem dX8_moment_58 : decode cX8_moment 58 = .ok (.iload 6, 2) := by decide +kernel
theorem dX8_moment_60 : decode cX8_moment 60 = .ok (.invokevirtual 98, 3) := by decide +kernel
theorem dX8_moment_63 : decode cX8_moment 63 = .ok (.ifCond .eq 7, 3) := by decide +kernel
theorem dX8_moment_66 : decode cX8_moment 66 = .ok (.iconst 2, 1) := by decide +kernel
theorem dX8_moment_67 : decode cX8_moment 67 = .ok (.goto 4, 3) := by decide +kernel
theorem dX8_moment_70 : decode cX8_moment 70 = .ok (.iconst 1, 1) := by decide +kernel
theorem dX8_moment_71 : decode cX8_moment 71 = .ok (.ireturn, 1) := by decide +kernel
theorem dX8_moment_72 : decode cX8_moment 72 = .ok (.aload 5, 2) := by decide +kernel
theorem dX8_moment_74 : decode cX8_moment 74 = .ok (.iload 6, 2) := by decide +kernel
theorem dX8_moment_76 : decode cX8_moment 76 = .ok (.invokevirtual 102, 3) := by decide +kernel
theorem dX8_moment_79 : decode cX8_moment 79 = .ok (.ireturn, 1) := by decide +kernel
theorem dX8_moment_80 : decode cX8_moment 80 = .ok (.aload 5, 2) := by decide +kernel
theorem dX8_moment_82 : decode cX8_moment 82 = .ok (.iload 6, 2) := by decide +kernel
theorem dX8_moment_84 : decode cX8_moment 84 = .ok (.invokevirtual 98, 3) := by decide +kernel
theorem dX8_moment_87 : decode cX8_moment 87 = .ok (.ifCond .eq 13, 3) := by decide +kernel
theorem dX8_moment_90 : decode cX8_moment 90 = .ok (.aload 5, 2) := by decide +kernel
theorem dX8_moment_92 : decode cX8_moment 92 = .ok (.iload 6, 2) := by decide +kernel
theorem dX8_moment_94 : decode cX8_moment 94 = .ok (.invokevirtual 105, 3) := by decide +kernel
theorem dX8_moment_97 : decode cX8_moment 97 = .ok (.goto 4, 3) := by decide +kernel
theorem dX8_moment_100 : decode cX8_moment 100 = .ok (.iconst (-1), 1) := by decide +kernel
theorem dX8_moment_101 : decode cX8_moment 101 = .ok (.ireturn, 1) := by decide +kernel
theorem dX8_moment_102 : decode cX8_moment 102 = .ok (.iconst (-1), 1) := by decide +kernel
theorem dX8_moment_103 : decode cX8_moment 103 = .ok (.ireturn, 1) := by decide +kernel
theorem dX8_backs_0 : decode cX8_backs 0 = .ok (.aload_n 0, 1) := by decide +kernel
theorem dX8_backs_1 : decode cX8_backs 1 = .ok (.iload_n 1, 1) := by decide +kernel
theorem dX8_backs_2 : decode cX8_backs 2 = .ok (.invokevirtual 76, 3) := by decide +kernel
theorem dX8_backs_5 : decode cX8_backs 5 = .ok (.astore_n 3, 1) := by decide +kernel
theorem dX8_backs_6 : decode cX8_backs 6 = .ok (.aload_n 3, 1) := by decide +kernel
theorem dX8_backs_7 : decode cX8_backs 7 = .ok (.ifnull 13, 3) := by decide +kernel
theorem dX8_backs_10 : decode cX8_backs 10 = .ok (.iload_n 2, 1) := by decide +kernel
theorem dX8_backs_11 : decode cX8_backs 11 = .ok (.iconst 0, 1) := by decide +kernel
theorem dX8_backs_12 : decode cX8_backs 12 = .ok (.ldc 80, 2) := by decide +kernel
theorem dX8_backs_14 : decode cX8_backs 14 = .ok (.invokestatic 81, 3) := by decide +kernel
theorem dX8_backs_17 : decode cX8_backs 17 = .ok (.ifCond .ne 11, 3) := by decide +kernel
theorem dX8_backs_20 : decode cX8_backs 20 = .ok (.new 85, 3) := by decide +kernel
theorem dX8_backs_23 : decode cX8_backs 23 = .ok (.dup, 1) := by decide +kernel
theorem dX8_backs_24 : decode cX8_backs 24 = .ok (.invokespecial 87, 3) := by decide +kernel
theorem dX8_backs_27 : decode cX8_backs 27 = .ok (.athrow, 1) := by decide +kernel
theorem dX8_backs_28 : decode cX8_backs 28 = .ok (.aload_n 3, 1) := by decide +kernel
theorem dX8_backs_29 : decode cX8_backs 29 = .ok (.iload_n 2, 1) := by decide +kernel
theorem dX8_backs_30 : decode cX8_backs 30 = .ok (.invokevirtual 108, 3) := by decide +kernel
theorem dX8_backs_33 : decode cX8_backs 33 = .ok (.ireturn, 1) := by decide +kernel
theorem dX8_between_0 : decode cX8_between 0 = .ok (.aload_n 0, 1) := by decide +kernel
theorem dX8_between_1 : decode cX8_between 1 = .ok (.iload_n 1, 1) := by decide +kernel
theorem dX8_between_2 : decode cX8_between 2 = .ok (.invokevirtual 76, 3) := by decide +kernel
theorem dX8_between_5 : decode cX8_between 5 = .ok (.astore 7, 2) := by decide +kernel
theorem dX8_between_7 : decode cX8_between 7 = .ok (.iload_n 2, 1) := by decide +kernel
theorem dX8_between_8 : decode cX8_between 8 = .ok (.iload_n 3, 1) := by decide +kernel
theorem dX8_between_9 : decode cX8_between 9 = .ok (.invokestatic 94, 3) := by decide +kernel
theorem dX8_between_12 : decode cX8_between 12 = .ok (.istore 8, 2) := by decide +kernel
theorem dX8_between_14 : decode cX8_between 14 = .ok (.iload 4, 2) := by decide +kernel
theorem dX8_between_16 : decode cX8_between 16 = .ok (.iload 5, 2) := by decide +kernel
theorem dX8_between_18 : decode cX8_between 18 = .ok (.invokestatic 94, 3) := by decide +kernel
theorem dX8_between_21 : decode cX8_between 21 = .ok (.istore 9, 2) := by decide +kernel
theorem dX8_between_23 : decode cX8_between 23 = .ok (.aload 7, 2) := by decide +kernel
theorem dX8_between_25 : decode cX8_between 25 = .ok (.ifnull 25, 3) := by decide +kernel
theorem dX8_between_28 : decode cX8_between 28 = .ok (.iload 8, 2) := by decide +kernel
theorem dX8_between_30 : decode cX8_between 30 = .ok (.iconst (-1), 1) := by decide +kernel
theorem dX8_between_31 : decode cX8_between 31 = .ok (.if_icmp .eq 19, 3) := by decide +kernel
theorem dX8_between_34 : decode cX8_between 34 = .ok (.iload 9, 2) := by decide +kernel
theorem dX8_between_36 : decode cX8_between 36 = .ok (.iconst (-1), 1) := by decide +kernel
theorem dX8_between_37 : decode cX8_between 37 = .ok (.if_icmp .eq 13, 3) := by decide +kernel
theorem dX8_between_40 : decode cX8_between 40 = .ok (.iload 6, 2) := by decide +kernel
theorem dX8_between_42 : decode cX8_between 42 = .ok (.iconst 0, 1) := by decide +kernel
theorem dX8_between_43 : decode cX8_between 43 = .ok (.iconst 2, 1) := by decide +kernel
theorem dX8_between_44 : decode cX8_between 44 = .ok (.invokestatic 81, 3) := by decide +kernel
theorem dX8_between_47 : decode cX8_between 47 = .ok (.ifCond .ne 11, 3) := by decide +kernel
theorem dX8_between_50 : decode cX8_between 50 = .ok (.new 85, 3) := by decide +kernel
theorem dX8_between_53 : decode cX8_between 53 = .ok (.dup, 1) := by decide +kernel
theorem dX8_between_54 : decode cX8_between 54 = .ok (.invokespecial 87, 3) := by decide +kernel
theorem dX8_between_57 : decode cX8_between 57 = .ok (.athrow, 1) := by decide +kernel
theorem dX8_between_58 : decode cX8_between 58 = .ok (.iload 6, 2) := by decide +kernel
theorem dX8_between_60 : decode cX8_between 60 = .ok (.ifCond .ne 19, 3) := by decide +kernel
theorem dX8_between_63 : decode cX8_between 63 = .ok (.aload 7, 2) := by decide +kernel
theorem dX8_between_65 : decode cX8_between 65 = .ok (.iload 9, 2) := by decide +kernel
theorem dX8_between_67 : decode cX8_between 67 = .ok (.invokevirtual 102, 3) := by decide +kernel
theorem dX8_between_70 : decode cX8_between 70 = .ok (.aload 7, 2) := by decide +kernel
theorem dX8_between_72 : decode cX8_between 72 = .ok (.iload 8, 2) := by decide +kernel
theorem dX8_between_74 : decode cX8_between 74 = .ok (.invokevirtual 105, 3) := by decide +kernel
theorem dX8_between_77 : decode cX8_between 77 = .ok (.isub, 1) := by decide +kernel
theorem dX8_between_78 : decode cX8_between 78 = .ok (.ireturn, 1) := by decide +kernel
theorem dX8_between_79 : decode cX8_between 79 = .ok (.iload 6, 2) := by decide +kernel
theorem dX8_between_81 : decode cX8_between 81 = .ok (.iconst 1, 1) := by decide +kernel
theorem dX8_between_82 : decode cX8_between 82 = .ok (.if_icmp .ne 19, 3) := by decide +kernel
theorem dX8_between_85 : decode cX8_between 85 = .ok (.aload 7, 2) := by decide +kernel
theorem dX8_between_87 : decode cX8_between 87 = .ok (.iload 9, 2) := by decide +kernel
theorem dX8_between_89 : decode cX8_between 89 = .ok (.invokevirtual 105, 3) := by decide +kernel
theorem dX8_between_92 : decode cX8_between 92 = .ok (.aload 7, 2) := by decide +kernel
theorem dX8_between_94 : decode cX8_between 94 = .ok (.iload 8, 2) := by decide +kernel
theorem dX8_between_96 : decode cX8_between 96 = .ok (.invokevirtual 102, 3) := by decide +kernel
theorem dX8_between_99 : decode cX8_between 99 = .ok (.isub, 1) := by decide +kernel
theorem dX8_between_100 : decode cX8_between 100 = .ok (.ireturn, 1) := by decide +kernel
theorem dX8_between_101 : decode cX8_between 101 = .ok (.iconst 1, 1) := by decide +kernel
theorem dX8_between_102 : decode cX8_between 102 = .ok (.aload 7, 2) := by decide +kernel
theorem dX8_between_104 : decode cX8_between 104 = .ok (.iload 8, 2) := by decide +kernel
theorem dX8_between_106 : decode cX8_between 106 = .ok (.invokevirtual 98, 3) := by decide +kernel
theorem dX8_between_109 : decode cX8_between 109 = .ok (.ifCond .eq 7, 3) := by decide +kernel
theorem dX8_between_112 : decode cX8_between 112 = .ok (.iconst 1, 1) := by decide +kernel
theorem dX8_between_113 : decode cX8_between 113 = .ok (.goto 4, 3) := by decide +kernel
theorem dX8_between_116 : decode cX8_between 116 = .ok (.iconst 0, 1) := by decide +kernel
theorem dX8_between_117 : decode cX8_between 117 = .ok (.iadd, 1) := by decide +kernel
theorem dX8_between_118 : decode cX8_between 118 = .ok (.aload 7, 2) := by decide +kernel
theorem dX8_between_120 : decode cX8_between 120 = .ok (.iload 9, 2) := by decide +kernel
theorem dX8_between_122 : decode cX8_between 122 = .ok (.invokevirtual 98, 3) := by decide +kernel
theorem dX8_between_125 : decode cX8_between 125 = .ok (.ifCond .eq 7, 3) := by decide +kernel
theorem dX8_between_128 : decode cX8_between 128 = .ok (.iconst 1, 1) := by decide +kernel
theorem dX8_between_129 : decode cX8_between 129 = .ok (.goto 4, 3) := by decide +kernel
theorem dX8_between_132 : decode cX8_between 132 = .ok (.iconst 0, 1) := by decide +kernel
theorem dX8_between_133 : decode cX8_between 133 = .ok (.iadd, 1) := by decide +kernel
theorem dX8_between_134 : decode cX8_between 134 = .ok (.ireturn, 1) := by decide +kernel
theorem dX8_paper_0 : decode cX8_paper 0 = .ok (.iload_n 1, 1) := by decide +kernel
theorem dX8_paper_1 : decode cX8_paper 1 = .ok (.iconst 0, 1) := by decide +kernel
theorem dX8_paper_2 : decode cX8_paper 2 = .ok (.aload_n 0, 1) := by decide +kernel
theorem dX8_paper_3 : decode cX8_paper 3 = .ok (.getfield 54, 3) := by decide +kernel
theorem dX8_paper_6 : decode cX8_paper 6 = .ok (.getfield 111, 3) := by decide +kernel
theorem dX8_paper_9 : decode cX8_paper 9 = .ok (.iconst 1, 1) := by decide +kernel
theorem dX8_paper_10 : decode cX8_paper 10 = .ok (.isub, 1) := by decide +kernel
theorem dX8_paper_11 : decode cX8_paper 11 = .ok (.invokestatic 81, 3) := by decide +kernel
theorem dX8_paper_14 : decode cX8_paper 14 = .ok (.ifCond .eq 12, 3) := by decide +kernel
theorem dX8_paper_17 : decode cX8_paper 17 = .ok (.iload_n 2, 1) := by decide +kernel
theorem dX8_paper_18 : decode cX8_paper 18 = .ok (.iconst 0, 1) := by decide +kernel
theorem dX8_paper_19 : decode cX8_paper 19 = .ok (.iconst 3, 1) := by decide +kernel
theorem dX8_paper_20 : decode cX8_paper 20 = .ok (.invokestatic 81, 3) := by decide +kernel
theorem dX8_paper_23 : decode cX8_paper 23 = .ok (.ifCond .ne 5, 3) := by decide +kernel
theorem dX8_paper_26 : decode cX8_paper 26 = .ok (.iconst (-1), 1) := by decide +kernel
theorem dX8_paper_27 : decode cX8_paper 27 = .ok (.ireturn, 1) := by decide +kernel
theorem dX8_paper_28 : decode cX8_paper 28 = .ok (.aload_n 0, 1) := by decide +kernel
theorem dX8_paper_29 : decode cX8_paper 29 = .ok (.getfield 54, 3) := by decide +kernel
theorem dX8_paper_32 : decode cX8_paper 32 = .ok (.getfield 114, 3) := by decide +kernel
theorem dX8_paper_35 : decode cX8_paper 35 = .ok (.iload_n 1, 1) := by decide +kernel
theorem dX8_paper_36 : decode cX8_paper 36 = .ok (.iconst 4, 1) := by decide +kernel
theorem dX8_paper_37 : decode cX8_paper 37 = .ok (.imul, 1) := by decide +kernel
theorem dX8_paper_38 : decode cX8_paper 38 = .ok (.iload_n 2, 1) := by decide +kernel
theorem dX8_paper_39 : decode cX8_paper 39 = .ok (.iadd, 1) := by decide +kernel
theorem dX8_paper_40 : decode cX8_paper 40 = .ok (.iaload, 1) := by decide +kernel
theorem dX8_paper_41 : decode cX8_paper 41 = .ok (.ireturn, 1) := by decide +kernel
theorem dX8_worlds_0 : decode cX8_worlds 0 = .ok (.aload_n 0, 1) := by decide +kernel
theorem dX8_worlds_1 : decode cX8_worlds 1 = .ok (.getfield 26, 3) := by decide +kernel
theorem dX8_worlds_4 : decode cX8_worlds 4 = .ok (.aload_n 0, 1) := by decide +kernel
theorem dX8_worlds_5 : decode cX8_worlds 5 = .ok (.getfield 54, 3) := by decide +kernel
theorem dX8_worlds_8 : decode cX8_worlds 8 = .ok (.invokevirtual 118, 3) := by decide +kernel
theorem dX8_worlds_11 : decode cX8_worlds 11 = .ok (.aload_n 0, 1) := by decide +kernel
theorem dX8_worlds_12 : decode cX8_worlds 12 = .ok (.getfield 26, 3) := by decide +kernel
theorem dX8_worlds_15 : decode cX8_worlds 15 = .ok (.getfield 122, 3) := by decide +kernel
theorem dX8_worlds_18 : decode cX8_worlds 18 = .ok (.ireturn, 1) := by decide +kernel
theorem dX8_world_0 : decode cX8_world 0 = .ok (.aload_n 0, 1) := by decide +kernel
theorem dX8_world_1 : decode cX8_world 1 = .ok (.getfield 26, 3) := by decide +kernel
theorem dX8_world_4 : decode cX8_world 4 = .ok (.aload_n 0, 1) := by decide +kernel
theorem dX8_world_5 : decode cX8_world 5 = .ok (.getfield 54, 3) := by decide +kernel
theorem dX8_world_8 : decode cX8_world 8 = .ok (.invokevirtual 118, 3) := by decide +kernel
theorem dX8_world_11 : decode cX8_world 11 = .ok (.iload_n 1, 1) := by decide +kernel
theorem dX8_world_12 : decode cX8_world 12 = .ok (.iconst 0, 1) := by decide +kernel
theorem dX8_world_13 : decode cX8_world 13 = .ok (.aload_n 0, 1) := by decide +kernel
theorem dX8_world_14 : decode cX8_world 14 = .ok (.getfield 26, 3) := by decide +kernel
theorem dX8_world_17 : decode cX8_world 17 = .ok (.getfield 122, 3) := by decide +kernel
theorem dX8_world_20 : decode cX8_world 20 = .ok (.iconst 1, 1) := by decide +kernel
theorem dX8_world_21 : decode cX8_world 21 = .ok (.isub, 1) := by decide +kernel
theorem dX8_world_22 : decode cX8_world 22 = .ok (.invokestatic 81, 3) := by decide +kernel
theorem dX8_world_25 : decode cX8_world 25 = .ok (.ifCond .eq 20, 3) := by decide +kernel
theorem dX8_world_28 : decode cX8_world 28 = .ok (.iload_n 2, 1) := by decide +kernel
theorem dX8_world_29 : decode cX8_world 29 = .ok (.iconst 0, 1) := by decide +kernel
theorem dX8_world_30 : decode cX8_world 30 = .ok (.aload_n 0, 1) := by decide +kernel
theorem dX8_world_31 : decode cX8_world 31 = .ok (.getfield 54, 3) := by decide +kernel
theorem dX8_world_34 : decode cX8_world 34 = .ok (.getfield 111, 3) := by decide +kernel
theorem dX8_world_37 : decode cX8_world 37 = .ok (.iconst 1, 1) := by decide +kernel
theorem dX8_world_38 : decode cX8_world 38 = .ok (.isub, 1) := by decide +kernel
theorem dX8_world_39 : decode cX8_world 39 = .ok (.invokestatic 81, 3) := by decide +kernel
theorem dX8_world_42 : decode cX8_world 42 = .ok (.ifCond .ne 5, 3) := by decide +kernel
theorem dX8_world_45 : decode cX8_world 45 = .ok (.iconst (-1), 1) := by decide +kernel
theorem dX8_world_46 : decode cX8_world 46 = .ok (.ireturn, 1) := by decide +kernel
theorem dX8_world_47 : decode cX8_world 47 = .ok (.aload_n 0, 1) := by decide +kernel
theorem dX8_world_48 : decode cX8_world 48 = .ok (.getfield 26, 3) := by decide +kernel
theorem dX8_world_51 : decode cX8_world 51 = .ok (.iload_n 1, 1) := by decide +kernel
theorem dX8_world_52 : decode cX8_world 52 = .ok (.iload_n 2, 1) := by decide +kernel
theorem dX8_world_53 : decode cX8_world 53 = .ok (.invokevirtual 125, 3) := by decide +kernel
theorem dX8_world_56 : decode cX8_world 56 = .ok (.ireturn, 1) := by decide +kernel
theorem dX8_sure_0 : decode cX8_sure 0 = .ok (.iload_n 1, 1) := by decide +kernel
theorem dX8_sure_1 : decode cX8_sure 1 = .ok (.iconst 0, 1) := by decide +kernel
theorem dX8_sure_2 : decode cX8_sure 2 = .ok (.aload_n 0, 1) := by decide +kernel
theorem dX8_sure_3 : decode cX8_sure 3 = .ok (.getfield 54, 3) := by decide +kernel
theorem dX8_sure_6 : decode cX8_sure 6 = .ok (.getfield 111, 3) := by decide +kernel
theorem dX8_sure_9 : decode cX8_sure 9 = .ok (.iconst 1, 1) := by decide +kernel
theorem dX8_sure_10 : decode cX8_sure 10 = .ok (.isub, 1) := by decide +kernel
theorem dX8_sure_11 : decode cX8_sure 11 = .ok (.invokestatic 81, 3) := by decide +kernel
theorem dX8_sure_14 : decode cX8_sure 14 = .ok (.ifCond .ne 5, 3) := by decide +kernel
theorem dX8_sure_17 : decode cX8_sure 17 = .ok (.iconst (-1), 1) := by decide +kernel
theorem dX8_sure_18 : decode cX8_sure 18 = .ok (.ireturn, 1) := by decide +kernel
theorem dX8_sure_19 : decode cX8_sure 19 = .ok (.aload_n 0, 1) := by decide +kernel
theorem dX8_sure_20 : decode cX8_sure 20 = .ok (.getfield 26, 3) := by decide +kernel
theorem dX8_sure_23 : decode cX8_sure 23 = .ok (.aload_n 0, 1) := by decide +kernel
theorem dX8_sure_24 : decode cX8_sure 24 = .ok (.getfield 54, 3) := by decide +kernel
theorem dX8_sure_27 : decode cX8_sure 27 = .ok (.invokevirtual 118, 3) := by decide +kernel
theorem dX8_sure_30 : decode cX8_sure 30 = .ok (.aload_n 0, 1) := by decide +kernel
theorem dX8_sure_31 : decode cX8_sure 31 = .ok (.getfield 26, 3) := by decide +kernel
theorem dX8_sure_34 : decode cX8_sure 34 = .ok (.iload_n 1, 1) := by decide +kernel
theorem dX8_sure_35 : decode cX8_sure 35 = .ok (.invokevirtual 128, 3) := by decide +kernel
theorem dX8_sure_38 : decode cX8_sure 38 = .ok (.ireturn, 1) := by decide +kernel
theorem dX8_before_0 : decode cX8_before 0 = .ok (.iload_n 1, 1) := by decide +kernel
theorem dX8_before_1 : decode cX8_before 1 = .ok (.iconst 0, 1) := by decide +kernel
theorem dX8_before_2 : decode cX8_before 2 = .ok (.aload_n 0, 1) := by decide +kernel
theorem dX8_before_3 : decode cX8_before 3 = .ok (.getfield 54, 3) := by decide +kernel
theorem dX8_before_6 : decode cX8_before 6 = .ok (.getfield 111, 3) := by decide +kernel
theorem dX8_before_9 : decode cX8_before 9 = .ok (.iconst 1, 1) := by decide +kernel
theorem dX8_before_10 : decode cX8_before 10 = .ok (.isub, 1) := by decide +kernel
theorem dX8_before_11 : decode cX8_before 11 = .ok (.invokestatic 81, 3) := by decide +kernel
theorem dX8_before_14 : decode cX8_before 14 = .ok (.ifCond .eq 25, 3) := by decide +kernel
theorem dX8_before_17 : decode cX8_before 17 = .ok (.iload_n 2, 1) := by decide +kernel
theorem dX8_before_18 : decode cX8_before 18 = .ok (.iconst 0, 1) := by decide +kernel
theorem dX8_before_19 : decode cX8_before 19 = .ok (.aload_n 0, 1) := by decide +kernel
theorem dX8_before_20 : decode cX8_before 20 = .ok (.getfield 54, 3) := by decide +kernel
theorem dX8_before_23 : decode cX8_before 23 = .ok (.getfield 111, 3) := by decide +kernel
theorem dX8_before_26 : decode cX8_before 26 = .ok (.iconst 1, 1) := by decide +kernel
theorem dX8_before_27 : decode cX8_before 27 = .ok (.isub, 1) := by decide +kernel
theorem dX8_before_28 : decode cX8_before 28 = .ok (.invokestatic 81, 3) := by decide +kernel
theorem dX8_before_31 : decode cX8_before 31 = .ok (.ifCond .eq 8, 3) := by decide +kernel
theorem dX8_before_34 : decode cX8_before 34 = .ok (.iload_n 1, 1) := by decide +kernel
theorem dX8_before_35 : decode cX8_before 35 = .ok (.iload_n 2, 1) := by decide +kernel
theorem dX8_before_36 : decode cX8_before 36 = .ok (.if_icmp .ne 5, 3) := by decide +kernel
theorem dX8_before_39 : decode cX8_before 39 = .ok (.iconst (-1), 1) := by decide +kernel
theorem dX8_before_40 : decode cX8_before 40 = .ok (.ireturn, 1) := by decide +kernel
theorem dX8_before_41 : decode cX8_before 41 = .ok (.aload_n 0, 1) := by decide +kernel
theorem dX8_before_42 : decode cX8_before 42 = .ok (.getfield 26, 3) := by decide +kernel
theorem dX8_before_45 : decode cX8_before 45 = .ok (.aload_n 0, 1) := by decide +kernel
theorem dX8_before_46 : decode cX8_before 46 = .ok (.getfield 54, 3) := by decide +kernel
theorem dX8_before_49 : decode cX8_before 49 = .ok (.invokevirtual 118, 3) := by decide +kernel
theorem dX8_before_52 : decode cX8_before 52 = .ok (.aload_n 0, 1) := by decide +kernel
theorem dX8_before_53 : decode cX8_before 53 = .ok (.getfield 26, 3) := by decide +kernel
theorem dX8_before_56 : decode cX8_before 56 = .ok (.iload_n 1, 1) := by decide +kernel
theorem dX8_before_57 : decode cX8_before 57 = .ok (.iload_n 2, 1) := by decide +kernel
theorem dX8_before_58 : decode cX8_before 58 = .ok (.invokevirtual 131, 3) := by decide +kernel
theorem dX8_before_61 : decode cX8_before 61 = .ok (.ireturn, 1) := by decide +kernel
theorem dX8_together_0 : decode cX8_together 0 = .ok (.aload_n 0, 1) := by decide +kernel
theorem dX8_together_1 : decode cX8_together 1 = .ok (.getfield 26, 3) := by decide +kernel
theorem dX8_together_4 : decode cX8_together 4 = .ok (.aload_n 0, 1) := by decide +kernel
theorem dX8_together_5 : decode cX8_together 5 = .ok (.getfield 54, 3) := by decide +kernel
theorem dX8_together_8 : decode cX8_together 8 = .ok (.invokevirtual 118, 3) := by decide +kernel
theorem dX8_together_11 : decode cX8_together 11 = .ok (.aload_n 0, 1) := by decide +kernel
theorem dX8_together_12 : decode cX8_together 12 = .ok (.getfield 26, 3) := by decide +kernel
theorem dX8_together_15 : decode cX8_together 15 = .ok (.getfield 122, 3) := by decide +kernel
theorem dX8_together_18 : decode cX8_together 18 = .ok (.ifCond .le 7, 3) := by decide +kernel
theorem dX8_together_21 : decode cX8_together 21 = .ok (.iconst (-1), 1) := by decide +kernel
theorem dX8_together_22 : decode cX8_together 22 = .ok (.goto 10, 3) := by decide +kernel
theorem dX8_together_25 : decode cX8_together 25 = .ok (.aload_n 0, 1) := by decide +kernel
theorem dX8_together_26 : decode cX8_together 26 = .ok (.getfield 26, 3) := by decide +kernel
theorem dX8_together_29 : decode cX8_together 29 = .ok (.invokevirtual 134, 3) := by decide +kernel
theorem dX8_together_32 : decode cX8_together 32 = .ok (.ireturn, 1) := by decide +kernel
theorem dX8_open_0 : decode cX8_open 0 = .ok (.aload_n 0, 1) := by decide +kernel
theorem dX8_open_1 : decode cX8_open 1 = .ok (.getfield 26, 3) := by decide +kernel
theorem dX8_open_4 : decode cX8_open 4 = .ok (.aload_n 0, 1) := by decide +kernel
theorem dX8_open_5 : decode cX8_open 5 = .ok (.getfield 54, 3) := by decide +kernel
theorem dX8_open_8 : decode cX8_open 8 = .ok (.invokevirtual 118, 3) := by decide +kernel
theorem dX8_open_11 : decode cX8_open 11 = .ok (.aload_n 0, 1) := by decide +kernel
theorem dX8_open_12 : decode cX8_open 12 = .ok (.getfield 26, 3) := by decide +kernel
theorem dX8_open_15 : decode cX8_open 15 = .ok (.getfield 122, 3) := by decide +kernel
theorem dX8_open_18 : decode cX8_open 18 = .ok (.ifCond .le 13, 3) := by decide +kernel
theorem dX8_open_21 : decode cX8_open 21 = .ok (.aload_n 0, 1) := by decide +kernel
theorem dX8_open_22 : decode cX8_open 22 = .ok (.getfield 26, 3) := by decide +kernel
theorem dX8_open_25 : decode cX8_open 25 = .ok (.invokevirtual 138, 3) := by decide +kernel
theorem dX8_open_28 : decode cX8_open 28 = .ok (.goto 4, 3) := by decide +kernel
theorem dX8_open_31 : decode cX8_open 31 = .ok (.iconst (-1), 1) := by decide +kernel
theorem dX8_open_32 : decode cX8_open 32 = .ok (.ireturn, 1) := by decide +kernel
theorem dX8_work_0 : decode cX8_work 0 = .ok (.iload_n 1, 1) := by decide +kernel
theorem dX8_work_1 : decode cX8_work 1 = .ok (.iconst 0, 1) := by decide +kernel
theorem dX8_work_2 : decode cX8_work 2 = .ok (.aload_n 0, 1) := by decide +kernel
theorem dX8_work_3 : decode cX8_work 3 = .ok (.getfield 54, 3) := by decide +kernel
theorem dX8_work_6 : decode cX8_work 6 = .ok (.getfield 141, 3) := by decide +kernel
theorem dX8_work_9 : decode cX8_work 9 = .ok (.iconst 1, 1) := by decide +kernel
theorem dX8_work_10 : decode cX8_work 10 = .ok (.isub, 1) := by decide +kernel
theorem dX8_work_11 : decode cX8_work 11 = .ok (.invokestatic 81, 3) := by decide +kernel
theorem dX8_work_14 : decode cX8_work 14 = .ok (.ifCond .eq 12, 3) := by decide +kernel
theorem dX8_work_17 : decode cX8_work 17 = .ok (.iload_n 2, 1) := by decide +kernel
theorem dX8_work_18 : decode cX8_work 18 = .ok (.iconst 0, 1) := by decide +kernel
theorem dX8_work_19 : decode cX8_work 19 = .ok (.iconst 4, 1) := by decide +kernel
theorem dX8_work_20 : decode cX8_work 20 = .ok (.invokestatic 81, 3) := by decide +kernel
theorem dX8_work_23 : decode cX8_work 23 = .ok (.ifCond .ne 5, 3) := by decide +kernel
theorem dX8_work_26 : decode cX8_work 26 = .ok (.iconst (-1), 1) := by decide +kernel
theorem dX8_work_27 : decode cX8_work 27 = .ok (.ireturn, 1) := by decide +kernel
theorem dX8_work_28 : decode cX8_work 28 = .ok (.aload_n 0, 1) := by decide +kernel
theorem dX8_work_29 : decode cX8_work 29 = .ok (.getfield 54, 3) := by decide +kernel
theorem dX8_work_32 : decode cX8_work 32 = .ok (.getfield 144, 3) := by decide +kernel
theorem dX8_work_35 : decode cX8_work 35 = .ok (.iload_n 1, 1) := by decide +kernel
theorem dX8_work_36 : decode cX8_work 36 = .ok (.iconst 5, 1) := by decide +kernel
theorem dX8_work_37 : decode cX8_work 37 = .ok (.imul, 1) := by decide +kernel
theorem dX8_work_38 : decode cX8_work 38 = .ok (.iload_n 2, 1) := by decide +kernel
theorem dX8_work_39 : decode cX8_work 39 = .ok (.iadd, 1) := by decide +kernel
theorem dX8_work_40 : decode cX8_work 40 = .ok (.iaload, 1) := by decide +kernel
theorem dX8_work_41 : decode cX8_work 41 = .ok (.ireturn, 1) := by decide +kernel
theorem dX8_best_0 : decode cX8_best 0 = .ok (.aload_n 0, 1) := by decide +kernel
theorem dX8_best_1 : decode cX8_best 1 = .ok (.iload_n 1, 1) := by decide +kernel
theorem dX8_best_2 : decode cX8_best 2 = .ok (.invokevirtual 147, 3) := by decide +kernel
theorem dX8_best_5 : decode cX8_best 5 = .ok (.ifCond .ne 5, 3) := by decide +kernel
theorem dX8_best_8 : decode cX8_best 8 = .ok (.iconst (-1), 1) := by decide +kernel
theorem dX8_best_9 : decode cX8_best 9 = .ok (.ireturn, 1) := by decide +kernel
theorem dX8_best_10 : decode cX8_best 10 = .ok (.iload_n 2, 1) := by decide +kernel
theorem dX8_best_11 : decode cX8_best 11 = .ok (.tableswitch 69 0 3 #[29, 37, 45, 61], 29) := by decide +kernel
theorem dX8_best_40 : decode cX8_best 40 = .ok (.aload_n 0, 1) := by decide +kernel
theorem dX8_best_41 : decode cX8_best 41 = .ok (.getfield 33, 3) := by decide +kernel
theorem dX8_best_44 : decode cX8_best 44 = .ok (.getfield 150, 3) := by decide +kernel
theorem dX8_best_47 : decode cX8_best 47 = .ok (.ireturn, 1) := by decide +kernel
theorem dX8_best_48 : decode cX8_best 48 = .ok (.aload_n 0, 1) := by decide +kernel
theorem dX8_best_49 : decode cX8_best 49 = .ok (.getfield 33, 3) := by decide +kernel
theorem dX8_best_52 : decode cX8_best 52 = .ok (.getfield 153, 3) := by decide +kernel
theorem dX8_best_55 : decode cX8_best 55 = .ok (.ireturn, 1) := by decide +kernel
theorem dX8_best_56 : decode cX8_best 56 = .ok (.aload_n 0, 1) := by decide +kernel
theorem dX8_best_57 : decode cX8_best 57 = .ok (.getfield 33, 3) := by decide +kernel
theorem dX8_best_60 : decode cX8_best 60 = .ok (.getfield 150, 3) := by decide +kernel
theorem dX8_best_63 : decode cX8_best 63 = .ok (.aload_n 0, 1) := by decide +kernel
theorem dX8_best_64 : decode cX8_best 64 = .ok (.getfield 33, 3) := by decide +kernel
theorem dX8_best_67 : decode cX8_best 67 = .ok (.getfield 156, 3) := by decide +kernel
theorem dX8_best_70 : decode cX8_best 70 = .ok (.isub, 1) := by decide +kernel
theorem dX8_best_71 : decode cX8_best 71 = .ok (.ireturn, 1) := by decide +kernel
theorem dX8_best_72 : decode cX8_best 72 = .ok (.aload_n 0, 1) := by decide +kernel
theorem dX8_best_73 : decode cX8_best 73 = .ok (.getfield 33, 3) := by decide +kernel
theorem dX8_best_76 : decode cX8_best 76 = .ok (.getfield 156, 3) := by decide +kernel
theorem dX8_best_79 : decode cX8_best 79 = .ok (.ireturn, 1) := by decide +kernel
theorem dX8_best_80 : decode cX8_best 80 = .ok (.iconst (-1), 1) := by decide +kernel
theorem dX8_best_81 : decode cX8_best 81 = .ok (.ireturn, 1) := by decide +kernel
theorem dX8_order_0 : decode cX8_order 0 = .ok (.aload_n 0, 1) := by decide +kernel
theorem dX8_order_1 : decode cX8_order 1 = .ok (.iload_n 1, 1) := by decide +kernel
theorem dX8_order_2 : decode cX8_order 2 = .ok (.invokevirtual 147, 3) := by decide +kernel
theorem dX8_order_5 : decode cX8_order 5 = .ok (.ifCond .eq 32, 3) := by decide +kernel
theorem dX8_order_8 : decode cX8_order 8 = .ok (.iload_n 2, 1) := by decide +kernel
theorem dX8_order_9 : decode cX8_order 9 = .ok (.iconst 0, 1) := by decide +kernel
theorem dX8_order_10 : decode cX8_order 10 = .ok (.aload_n 0, 1) := by decide +kernel
theorem dX8_order_11 : decode cX8_order 11 = .ok (.getfield 33, 3) := by decide +kernel
theorem dX8_order_14 : decode cX8_order 14 = .ok (.getfield 159, 3) := by decide +kernel
theorem dX8_order_17 : decode cX8_order 17 = .ok (.iconst 1, 1) := by decide +kernel
theorem dX8_order_18 : decode cX8_order 18 = .ok (.isub, 1) := by decide +kernel
theorem dX8_order_19 : decode cX8_order 19 = .ok (.invokestatic 81, 3) := by decide +kernel
theorem dX8_order_22 : decode cX8_order 22 = .ok (.ifCond .eq 15, 3) := by decide +kernel
theorem dX8_order_25 : decode cX8_order 25 = .ok (.aload_n 0, 1) := by decide +kernel
theorem dX8_order_26 : decode cX8_order 26 = .ok (.getfield 33, 3) := by decide +kernel
theorem dX8_order_29 : decode cX8_order 29 = .ok (.getfield 160, 3) := by decide +kernel
theorem dX8_order_32 : decode cX8_order 32 = .ok (.iload_n 2, 1) := by decide +kernel
theorem dX8_order_33 : decode cX8_order 33 = .ok (.iaload, 1) := by decide +kernel
theorem dX8_order_34 : decode cX8_order 34 = .ok (.goto 4, 3) := by decide +kernel
theorem dX8_order_37 : decode cX8_order 37 = .ok (.iconst (-1), 1) := by decide +kernel
theorem dX8_order_38 : decode cX8_order 38 = .ok (.ireturn, 1) := by decide +kernel
theorem dX8_begins_0 : decode cX8_begins 0 = .ok (.aload_n 0, 1) := by decide +kernel
theorem dX8_begins_1 : decode cX8_begins 1 = .ok (.iload_n 1, 1) := by decide +kernel
theorem dX8_begins_2 : decode cX8_begins 2 = .ok (.invokevirtual 147, 3) := by decide +kernel
theorem dX8_begins_5 : decode cX8_begins 5 = .ok (.ifCond .eq 32, 3) := by decide +kernel
theorem dX8_begins_8 : decode cX8_begins 8 = .ok (.iload_n 2, 1) := by decide +kernel
theorem dX8_begins_9 : decode cX8_begins 9 = .ok (.iconst 0, 1) := by decide +kernel
theorem dX8_begins_10 : decode cX8_begins 10 = .ok (.aload_n 0, 1) := by decide +kernel
theorem dX8_begins_11 : decode cX8_begins 11 = .ok (.getfield 33, 3) := by decide +kernel
theorem dX8_begins_14 : decode cX8_begins 14 = .ok (.getfield 159, 3) := by decide +kernel
theorem dX8_begins_17 : decode cX8_begins 17 = .ok (.iconst 1, 1) := by decide +kernel
theorem dX8_begins_18 : decode cX8_begins 18 = .ok (.isub, 1) := by decide +kernel
theorem dX8_begins_19 : decode cX8_begins 19 = .ok (.invokestatic 81, 3) := by decide +kernel
theorem dX8_begins_22 : decode cX8_begins 22 = .ok (.ifCond .eq 15, 3) := by decide +kernel
theorem dX8_begins_25 : decode cX8_begins 25 = .ok (.aload_n 0, 1) := by decide +kernel
theorem dX8_begins_26 : decode cX8_begins 26 = .ok (.getfield 33, 3) := by decide +kernel
theorem dX8_begins_29 : decode cX8_begins 29 = .ok (.getfield 163, 3) := by decide +kernel
theorem dX8_begins_32 : decode cX8_begins 32 = .ok (.iload_n 2, 1) := by decide +kernel
theorem dX8_begins_33 : decode cX8_begins 33 = .ok (.iaload, 1) := by decide +kernel
theorem dX8_begins_34 : decode cX8_begins 34 = .ok (.goto 4, 3) := by decide +kernel
theorem dX8_begins_37 : decode cX8_begins 37 = .ok (.iconst (-1), 1) := by decide +kernel
theorem dX8_begins_38 : decode cX8_begins 38 = .ok (.ireturn, 1) := by decide +kernel
theorem dX8_wish_0 : decode cX8_wish 0 = .ok (.iload_n 1, 1) := by decide +kernel
theorem dX8_wish_1 : decode cX8_wish 1 = .ok (.iconst 0, 1) := by decide +kernel
theorem dX8_wish_2 : decode cX8_wish 2 = .ok (.aload_n 0, 1) := by decide +kernel
theorem dX8_wish_3 : decode cX8_wish 3 = .ok (.getfield 54, 3) := by decide +kernel
theorem dX8_wish_6 : decode cX8_wish 6 = .ok (.getfield 166, 3) := by decide +kernel
theorem dX8_wish_9 : decode cX8_wish 9 = .ok (.iconst 1, 1) := by decide +kernel
theorem dX8_wish_10 : decode cX8_wish 10 = .ok (.isub, 1) := by decide +kernel
theorem dX8_wish_11 : decode cX8_wish 11 = .ok (.invokestatic 81, 3) := by decide +kernel
theorem dX8_wish_14 : decode cX8_wish 14 = .ok (.ifCond .eq 13, 3) := by decide +kernel
theorem dX8_wish_17 : decode cX8_wish 17 = .ok (.iload_n 2, 1) := by decide +kernel
theorem dX8_wish_18 : decode cX8_wish 18 = .ok (.iconst 1, 1) := by decide +kernel
theorem dX8_wish_19 : decode cX8_wish 19 = .ok (.bipush 24, 2) := by decide +kernel
theorem dX8_wish_21 : decode cX8_wish 21 = .ok (.invokestatic 81, 3) := by decide +kernel
theorem dX8_wish_24 : decode cX8_wish 24 = .ok (.ifCond .ne 5, 3) := by decide +kernel
theorem dX8_wish_27 : decode cX8_wish 27 = .ok (.iconst (-1), 1) := by decide +kernel
theorem dX8_wish_28 : decode cX8_wish 28 = .ok (.ireturn, 1) := by decide +kernel
theorem dX8_wish_29 : decode cX8_wish 29 = .ok (.aload_n 0, 1) := by decide +kernel
theorem dX8_wish_30 : decode cX8_wish 30 = .ok (.getfield 54, 3) := by decide +kernel
theorem dX8_wish_33 : decode cX8_wish 33 = .ok (.iload_n 1, 1) := by decide +kernel
theorem dX8_wish_34 : decode cX8_wish 34 = .ok (.iload_n 2, 1) := by decide +kernel
theorem dX8_wish_35 : decode cX8_wish 35 = .ok (.invokevirtual 169, 3) := by decide +kernel
theorem dX8_wish_38 : decode cX8_wish 38 = .ok (.ireturn, 1) := by decide +kernel
theorem dX8_vote_0 : decode cX8_vote 0 = .ok (.aload_n 0, 1) := by decide +kernel
theorem dX8_vote_1 : decode cX8_vote 1 = .ok (.getfield 54, 3) := by decide +kernel
theorem dX8_vote_4 : decode cX8_vote 4 = .ok (.getfield 166, 3) := by decide +kernel
theorem dX8_vote_7 : decode cX8_vote 7 = .ok (.ifCond .le 18, 3) := by decide +kernel
theorem dX8_vote_10 : decode cX8_vote 10 = .ok (.aload_n 0, 1) := by decide +kernel
theorem dX8_vote_11 : decode cX8_vote 11 = .ok (.getfield 40, 3) := by decide +kernel
theorem dX8_vote_14 : decode cX8_vote 14 = .ok (.aload_n 0, 1) := by decide +kernel
theorem dX8_vote_15 : decode cX8_vote 15 = .ok (.getfield 54, 3) := by decide +kernel
theorem dX8_vote_18 : decode cX8_vote 18 = .ok (.iload_n 1, 1) := by decide +kernel
theorem dX8_vote_19 : decode cX8_vote 19 = .ok (.invokevirtual 172, 3) := by decide +kernel
theorem dX8_vote_22 : decode cX8_vote 22 = .ok (.goto 4, 3) := by decide +kernel
theorem dX8_vote_25 : decode cX8_vote 25 = .ok (.iconst (-1), 1) := by decide +kernel
theorem dX8_vote_26 : decode cX8_vote 26 = .ok (.ireturn, 1) := by decide +kernel
theorem dX8_prefers_0 : decode cX8_prefers 0 = .ok (.iload_n 1, 1) := by decide +kernel
theorem dX8_prefers_1 : decode cX8_prefers 1 = .ok (.iconst 1, 1) := by decide +kernel
theorem dX8_prefers_2 : decode cX8_prefers 2 = .ok (.bipush 24, 2) := by decide +kernel
theorem dX8_prefers_4 : decode cX8_prefers 4 = .ok (.invokestatic 81, 3) := by decide +kernel
theorem dX8_prefers_7 : decode cX8_prefers 7 = .ok (.ifCond .eq 13, 3) := by decide +kernel
theorem dX8_prefers_10 : decode cX8_prefers 10 = .ok (.iload_n 2, 1) := by decide +kernel
theorem dX8_prefers_11 : decode cX8_prefers 11 = .ok (.iconst 1, 1) := by decide +kernel
theorem dX8_prefers_12 : decode cX8_prefers 12 = .ok (.bipush 24, 2) := by decide +kernel
theorem dX8_prefers_14 : decode cX8_prefers 14 = .ok (.invokestatic 81, 3) := by decide +kernel
theorem dX8_prefers_17 : decode cX8_prefers 17 = .ok (.ifCond .ne 5, 3) := by decide +kernel
theorem dX8_prefers_20 : decode cX8_prefers 20 = .ok (.iconst (-1), 1) := by decide +kernel
theorem dX8_prefers_21 : decode cX8_prefers 21 = .ok (.ireturn, 1) := by decide +kernel
theorem dX8_prefers_22 : decode cX8_prefers 22 = .ok (.aload_n 0, 1) := by decide +kernel
theorem dX8_prefers_23 : decode cX8_prefers 23 = .ok (.getfield 54, 3) := by decide +kernel
theorem dX8_prefers_26 : decode cX8_prefers 26 = .ok (.iload_n 1, 1) := by decide +kernel
theorem dX8_prefers_27 : decode cX8_prefers 27 = .ok (.iload_n 2, 1) := by decide +kernel
theorem dX8_prefers_28 : decode cX8_prefers 28 = .ok (.invokevirtual 176, 3) := by decide +kernel
theorem dX8_prefers_31 : decode cX8_prefers 31 = .ok (.ireturn, 1) := by decide +kernel
theorem dX8_most_0 : decode cX8_most 0 = .ok (.aload_n 0, 1) := by decide +kernel
theorem dX8_most_1 : decode cX8_most 1 = .ok (.iload_n 1, 1) := by decide +kernel
theorem dX8_most_2 : decode cX8_most 2 = .ok (.iload_n 2, 1) := by decide +kernel
theorem dX8_most_3 : decode cX8_most 3 = .ok (.invokevirtual 179, 3) := by decide +kernel
theorem dX8_most_6 : decode cX8_most 6 = .ok (.ifCond .eq 13, 3) := by decide +kernel
theorem dX8_most_9 : decode cX8_most 9 = .ok (.aload_n 0, 1) := by decide +kernel
theorem dX8_most_10 : decode cX8_most 10 = .ok (.getfield 47, 3) := by decide +kernel
theorem dX8_most_13 : decode cX8_most 13 = .ok (.getfield 183, 3) := by decide +kernel
theorem dX8_most_16 : decode cX8_most 16 = .ok (.goto 4, 3) := by decide +kernel
theorem dX8_most_19 : decode cX8_most 19 = .ok (.iconst (-1), 1) := by decide +kernel
theorem dX8_most_20 : decode cX8_most 20 = .ok (.ireturn, 1) := by decide +kernel
theorem dX8_goes_0 : decode cX8_goes 0 = .ok (.aload_n 0, 1) := by decide +kernel
theorem dX8_goes_1 : decode cX8_goes 1 = .ok (.iload_n 1, 1) := by decide +kernel
theorem dX8_goes_2 : decode cX8_goes 2 = .ok (.iload_n 2, 1) := by decide +kernel
theorem dX8_goes_3 : decode cX8_goes 3 = .ok (.invokevirtual 179, 3) := by decide +kernel
theorem dX8_goes_6 : decode cX8_goes 6 = .ok (.ifCond .eq 30, 3) := by decide +kernel
theorem dX8_goes_9 : decode cX8_goes 9 = .ok (.iload_n 3, 1) := by decide +kernel
theorem dX8_goes_10 : decode cX8_goes 10 = .ok (.iconst 0, 1) := by decide +kernel
theorem dX8_goes_11 : decode cX8_goes 11 = .ok (.aload_n 0, 1) := by decide +kernel
theorem dX8_goes_12 : decode cX8_goes 12 = .ok (.getfield 47, 3) := by decide +kernel
theorem dX8_goes_15 : decode cX8_goes 15 = .ok (.getfield 183, 3) := by decide +kernel
theorem dX8_goes_18 : decode cX8_goes 18 = .ok (.iconst 1, 1) := by decide +kernel
theorem dX8_goes_19 : decode cX8_goes 19 = .ok (.isub, 1) := by decide +kernel
theorem dX8_goes_20 : decode cX8_goes 20 = .ok (.invokestatic 81, 3) := by decide +kernel
theorem dX8_goes_23 : decode cX8_goes 23 = .ok (.ifCond .eq 13, 3) := by decide +kernel
theorem dX8_goes_26 : decode cX8_goes 26 = .ok (.iload 4, 2) := by decide +kernel
theorem dX8_goes_28 : decode cX8_goes 28 = .ok (.iconst 0, 1) := by decide +kernel
theorem dX8_goes_29 : decode cX8_goes 29 = .ok (.iconst 1, 1) := by decide +kernel
theorem dX8_goes_30 : decode cX8_goes 30 = .ok (.invokestatic 81, 3) := by decide +kernel
theorem dX8_goes_33 : decode cX8_goes 33 = .ok (.ifCond .ne 5, 3) := by decide +kernel
theorem dX8_goes_36 : decode cX8_goes 36 = .ok (.iconst (-1), 1) := by decide +kernel
theorem dX8_goes_37 : decode cX8_goes 37 = .ok (.ireturn, 1) := by decide +kernel
theorem dX8_goes_38 : decode cX8_goes 38 = .ok (.aload_n 0, 1) := by decide +kernel
theorem dX8_goes_39 : decode cX8_goes 39 = .ok (.getfield 47, 3) := by decide +kernel
theorem dX8_goes_42 : decode cX8_goes 42 = .ok (.getfield 184, 3) := by decide +kernel
theorem dX8_goes_45 : decode cX8_goes 45 = .ok (.iload_n 3, 1) := by decide +kernel
theorem dX8_goes_46 : decode cX8_goes 46 = .ok (.iaload, 1) := by decide +kernel
theorem dX8_goes_47 : decode cX8_goes 47 = .ok (.istore 5, 2) := by decide +kernel
theorem dX8_goes_49 : decode cX8_goes 49 = .ok (.iload 4, 2) := by decide +kernel
theorem dX8_goes_51 : decode cX8_goes 51 = .ok (.ifCond .ne 16, 3) := by decide +kernel
theorem dX8_goes_54 : decode cX8_goes 54 = .ok (.aload_n 0, 1) := by decide +kernel
theorem dX8_goes_55 : decode cX8_goes 55 = .ok (.getfield 47, 3) := by decide +kernel
theorem dX8_goes_58 : decode cX8_goes 58 = .ok (.getfield 185, 3) := by decide +kernel
theorem dX8_goes_61 : decode cX8_goes 61 = .ok (.iload 5, 2) := by decide +kernel
theorem dX8_goes_63 : decode cX8_goes 63 = .ok (.iaload, 1) := by decide +kernel
theorem dX8_goes_64 : decode cX8_goes 64 = .ok (.goto 13, 3) := by decide +kernel
theorem dX8_goes_67 : decode cX8_goes 67 = .ok (.aload_n 0, 1) := by decide +kernel
theorem dX8_goes_68 : decode cX8_goes 68 = .ok (.getfield 47, 3) := by decide +kernel
theorem dX8_goes_71 : decode cX8_goes 71 = .ok (.getfield 188, 3) := by decide +kernel
theorem dX8_goes_74 : decode cX8_goes 74 = .ok (.iload 5, 2) := by decide +kernel
theorem dX8_goes_76 : decode cX8_goes 76 = .ok (.iaload, 1) := by decide +kernel
theorem dX8_goes_77 : decode cX8_goes 77 = .ok (.ireturn, 1) := by decide +kernel
theorem dX8_way_0 : decode cX8_way 0 = .ok (.iload_n 1, 1) := by decide +kernel
theorem dX8_way_1 : decode cX8_way 1 = .ok (.iconst 0, 1) := by decide +kernel
theorem dX8_way_2 : decode cX8_way 2 = .ok (.aload_n 0, 1) := by decide +kernel
theorem dX8_way_3 : decode cX8_way 3 = .ok (.getfield 54, 3) := by decide +kernel
theorem dX8_way_6 : decode cX8_way 6 = .ok (.getfield 191, 3) := by decide +kernel
theorem dX8_way_9 : decode cX8_way 9 = .ok (.iconst 1, 1) := by decide +kernel
theorem dX8_way_10 : decode cX8_way 10 = .ok (.isub, 1) := by decide +kernel
theorem dX8_way_11 : decode cX8_way 11 = .ok (.invokestatic 81, 3) := by decide +kernel
theorem dX8_way_14 : decode cX8_way 14 = .ok (.ifCond .eq 20, 3) := by decide +kernel
theorem dX8_way_17 : decode cX8_way 17 = .ok (.iload_n 2, 1) := by decide +kernel
theorem dX8_way_18 : decode cX8_way 18 = .ok (.iconst 0, 1) := by decide +kernel
theorem dX8_way_19 : decode cX8_way 19 = .ok (.aload_n 0, 1) := by decide +kernel
theorem dX8_way_20 : decode cX8_way 20 = .ok (.getfield 54, 3) := by decide +kernel
theorem dX8_way_23 : decode cX8_way 23 = .ok (.getfield 191, 3) := by decide +kernel
theorem dX8_way_26 : decode cX8_way 26 = .ok (.iconst 1, 1) := by decide +kernel
theorem dX8_way_27 : decode cX8_way 27 = .ok (.isub, 1) := by decide +kernel
theorem dX8_way_28 : decode cX8_way 28 = .ok (.invokestatic 81, 3) := by decide +kernel
theorem dX8_way_31 : decode cX8_way 31 = .ok (.ifCond .ne 5, 3) := by decide +kernel
theorem dX8_way_34 : decode cX8_way 34 = .ok (.iconst (-1), 1) := by decide +kernel
theorem dX8_way_35 : decode cX8_way 35 = .ok (.ireturn, 1) := by decide +kernel
theorem dX8_way_36 : decode cX8_way 36 = .ok (.aload_n 0, 1) := by decide +kernel
theorem dX8_way_37 : decode cX8_way 37 = .ok (.getfield 54, 3) := by decide +kernel
theorem dX8_way_40 : decode cX8_way 40 = .ok (.iload_n 1, 1) := by decide +kernel
theorem dX8_way_41 : decode cX8_way 41 = .ok (.iload_n 2, 1) := by decide +kernel
theorem dX8_way_42 : decode cX8_way 42 = .ok (.invokevirtual 194, 3) := by decide +kernel
theorem dX8_way_45 : decode cX8_way 45 = .ok (.ireturn, 1) := by decide +kernel
theorem dX8_wage_0 : decode cX8_wage 0 = .ok (.aload_n 0, 1) := by decide +kernel
theorem dX8_wage_1 : decode cX8_wage 1 = .ok (.iload_n 1, 1) := by decide +kernel
theorem dX8_wage_2 : decode cX8_wage 2 = .ok (.invokevirtual 76, 3) := by decide +kernel
theorem dX8_wage_5 : decode cX8_wage 5 = .ok (.astore 8, 2) := by decide +kernel
theorem dX8_wage_7 : decode cX8_wage 7 = .ok (.iload_n 2, 1) := by decide +kernel
theorem dX8_wage_8 : decode cX8_wage 8 = .ok (.iload_n 3, 1) := by decide +kernel
theorem dX8_wage_9 : decode cX8_wage 9 = .ok (.invokestatic 94, 3) := by decide +kernel
theorem dX8_wage_12 : decode cX8_wage 12 = .ok (.istore 9, 2) := by decide +kernel
theorem dX8_wage_14 : decode cX8_wage 14 = .ok (.iload 4, 2) := by decide +kernel
theorem dX8_wage_16 : decode cX8_wage 16 = .ok (.iload 5, 2) := by decide +kernel
theorem dX8_wage_18 : decode cX8_wage 18 = .ok (.invokestatic 94, 3) := by decide +kernel
theorem dX8_wage_21 : decode cX8_wage 21 = .ok (.istore 10, 2) := by decide +kernel
theorem dX8_wage_23 : decode cX8_wage 23 = .ok (.aload 8, 2) := by decide +kernel
theorem dX8_wage_25 : decode cX8_wage 25 = .ok (.ifnull 37, 3) := by decide +kernel
theorem dX8_wage_28 : decode cX8_wage 28 = .ok (.iload 9, 2) := by decide +kernel
theorem dX8_wage_30 : decode cX8_wage 30 = .ok (.iconst (-1), 1) := by decide +kernel
theorem dX8_wage_31 : decode cX8_wage 31 = .ok (.if_icmp .eq 31, 3) := by decide +kernel
theorem dX8_wage_34 : decode cX8_wage 34 = .ok (.iload 10, 2) := by decide +kernel
theorem dX8_wage_36 : decode cX8_wage 36 = .ok (.iconst (-1), 1) := by decide +kernel
theorem dX8_wage_37 : decode cX8_wage 37 = .ok (.if_icmp .eq 25, 3) := by decide +kernel
theorem dX8_wage_40 : decode cX8_wage 40 = .ok (.iload 6, 2) := by decide +kernel
theorem dX8_wage_42 : decode cX8_wage 42 = .ok (.iconst 0, 1) := by decide +kernel
theorem dX8_wage_43 : decode cX8_wage 43 = .ok (.sipush 999, 3) := by decide +kernel
theorem dX8_wage_46 : decode cX8_wage 46 = .ok (.invokestatic 81, 3) := by decide +kernel
theorem dX8_wage_49 : decode cX8_wage 49 = .ok (.ifCond .eq 13, 3) := by decide +kernel
theorem dX8_wage_52 : decode cX8_wage 52 = .ok (.iload 7, 2) := by decide +kernel
theorem dX8_wage_54 : decode cX8_wage 54 = .ok (.iconst 0, 1) := by decide +kernel
theorem dX8_wage_55 : decode cX8_wage 55 = .ok (.iconst 3, 1) := by decide +kernel
theorem dX8_wage_56 : decode cX8_wage 56 = .ok (.invokestatic 81, 3) := by decide +kernel
theorem dX8_wage_59 : decode cX8_wage 59 = .ok (.ifCond .ne 11, 3) := by decide +kernel
theorem dX8_wage_62 : decode cX8_wage 62 = .ok (.new 85, 3) := by decide +kernel
theorem dX8_wage_65 : decode cX8_wage 65 = .ok (.dup, 1) := by decide +kernel
theorem dX8_wage_66 : decode cX8_wage 66 = .ok (.invokespecial 87, 3) := by decide +kernel
theorem dX8_wage_69 : decode cX8_wage 69 = .ok (.athrow, 1) := by decide +kernel
theorem dX8_wage_70 : decode cX8_wage 70 = .ok (.iconst 0, 1) := by decide +kernel
theorem dX8_wage_71 : decode cX8_wage 71 = .ok (.aload 8, 2) := by decide +kernel
theorem dX8_wage_73 : decode cX8_wage 73 = .ok (.iload 9, 2) := by decide +kernel
theorem dX8_wage_75 : decode cX8_wage 75 = .ok (.iload 10, 2) := by decide +kernel
theorem dX8_wage_77 : decode cX8_wage 77 = .ok (.iload 7, 2) := by decide +kernel
theorem dX8_wage_79 : decode cX8_wage 79 = .ok (.invokestatic 197, 3) := by decide +kernel
theorem dX8_wage_82 : decode cX8_wage 82 = .ok (.invokestatic 201, 3) := by decide +kernel
theorem dX8_wage_85 : decode cX8_wage 85 = .ok (.i2l, 1) := by decide +kernel
theorem dX8_wage_86 : decode cX8_wage 86 = .ok (.lstore 11, 2) := by decide +kernel
theorem dX8_wage_88 : decode cX8_wage 88 = .ok (.lload 11, 2) := by decide +kernel
theorem dX8_wage_90 : decode cX8_wage 90 = .ok (.iload 6, 2) := by decide +kernel
theorem dX8_wage_92 : decode cX8_wage 92 = .ok (.i2l, 1) := by decide +kernel
theorem dX8_wage_93 : decode cX8_wage 93 = .ok (.lmul, 1) := by decide +kernel
theorem dX8_wage_94 : decode cX8_wage 94 = .ok (.ldc2_w 206, 3) := by decide +kernel
theorem dX8_wage_97 : decode cX8_wage 97 = .ok (.ldiv, 1) := by decide +kernel
theorem dX8_wage_98 : decode cX8_wage 98 = .ok (.l2i, 1) := by decide +kernel
theorem dX8_wage_99 : decode cX8_wage 99 = .ok (.ireturn, 1) := by decide +kernel
theorem dX8_deed_0 : decode cX8_deed 0 = .ok (.aload_n 0, 1) := by decide +kernel
theorem dX8_deed_1 : decode cX8_deed 1 = .ok (.iload_n 1, 1) := by decide +kernel
theorem dX8_deed_2 : decode cX8_deed 2 = .ok (.invokevirtual 76, 3) := by decide +kernel
theorem dX8_deed_5 : decode cX8_deed 5 = .ok (.astore 5, 2) := by decide +kernel
theorem dX8_deed_7 : decode cX8_deed 7 = .ok (.aload_n 0, 1) := by decide +kernel
theorem dX8_deed_8 : decode cX8_deed 8 = .ok (.iload 4, 2) := by decide +kernel
theorem dX8_deed_10 : decode cX8_deed 10 = .ok (.invokevirtual 76, 3) := by decide +kernel
theorem dX8_deed_13 : decode cX8_deed 13 = .ok (.astore 6, 2) := by decide +kernel
theorem dX8_deed_15 : decode cX8_deed 15 = .ok (.aload 5, 2) := by decide +kernel
theorem dX8_deed_17 : decode cX8_deed 17 = .ok (.ifnull 29, 3) := by decide +kernel
theorem dX8_deed_20 : decode cX8_deed 20 = .ok (.aload 6, 2) := by decide +kernel
theorem dX8_deed_22 : decode cX8_deed 22 = .ok (.ifnull 24, 3) := by decide +kernel
theorem dX8_deed_25 : decode cX8_deed 25 = .ok (.iload_n 2, 1) := by decide +kernel
theorem dX8_deed_26 : decode cX8_deed 26 = .ok (.iconst 0, 1) := by decide +kernel
theorem dX8_deed_27 : decode cX8_deed 27 = .ok (.ldc 80, 2) := by decide +kernel
theorem dX8_deed_29 : decode cX8_deed 29 = .ok (.invokestatic 81, 3) := by decide +kernel
theorem dX8_deed_32 : decode cX8_deed 32 = .ok (.ifCond .eq 14, 3) := by decide +kernel
theorem dX8_deed_35 : decode cX8_deed 35 = .ok (.iload_n 3, 1) := by decide +kernel
theorem dX8_deed_36 : decode cX8_deed 36 = .ok (.iconst 0, 1) := by decide +kernel
theorem dX8_deed_37 : decode cX8_deed 37 = .ok (.sipush 9999, 3) := by decide +kernel
theorem dX8_deed_40 : decode cX8_deed 40 = .ok (.invokestatic 81, 3) := by decide +kernel
theorem dX8_deed_43 : decode cX8_deed 43 = .ok (.ifCond .ne 11, 3) := by decide +kernel
theorem dX8_deed_46 : decode cX8_deed 46 = .ok (.new 85, 3) := by decide +kernel
theorem dX8_deed_49 : decode cX8_deed 49 = .ok (.dup, 1) := by decide +kernel
theorem dX8_deed_50 : decode cX8_deed 50 = .ok (.invokespecial 87, 3) := by decide +kernel
theorem dX8_deed_53 : decode cX8_deed 53 = .ok (.athrow, 1) := by decide +kernel
theorem dX8_deed_54 : decode cX8_deed 54 = .ok (.aload 6, 2) := by decide +kernel
theorem dX8_deed_56 : decode cX8_deed 56 = .ok (.iload_n 2, 1) := by decide +kernel
theorem dX8_deed_57 : decode cX8_deed 57 = .ok (.iload_n 3, 1) := by decide +kernel
theorem dX8_deed_58 : decode cX8_deed 58 = .ok (.iadd, 1) := by decide +kernel
theorem dX8_deed_59 : decode cX8_deed 59 = .ok (.invokevirtual 88, 3) := by decide +kernel
theorem dX8_deed_62 : decode cX8_deed 62 = .ok (.aload 5, 2) := by decide +kernel
theorem dX8_deed_64 : decode cX8_deed 64 = .ok (.iload_n 2, 1) := by decide +kernel
theorem dX8_deed_65 : decode cX8_deed 65 = .ok (.invokevirtual 88, 3) := by decide +kernel
theorem dX8_deed_68 : decode cX8_deed 68 = .ok (.isub, 1) := by decide +kernel
theorem dX8_deed_69 : decode cX8_deed 69 = .ok (.ireturn, 1) := by decide +kernel
theorem dX8_none_0 : decode cX8_none 0 = .ok (.aload_n 0, 1) := by decide +kernel
theorem dX8_none_1 : decode cX8_none 1 = .ok (.iload_n 1, 1) := by decide +kernel
theorem dX8_none_2 : decode cX8_none 2 = .ok (.invokevirtual 76, 3) := by decide +kernel
theorem dX8_none_5 : decode cX8_none 5 = .ok (.astore 4, 2) := by decide +kernel
theorem dX8_none_7 : decode cX8_none 7 = .ok (.aload 4, 2) := by decide +kernel
theorem dX8_none_9 : decode cX8_none 9 = .ok (.ifnull 25, 3) := by decide +kernel
theorem dX8_none_12 : decode cX8_none 12 = .ok (.iload_n 2, 1) := by decide +kernel
theorem dX8_none_13 : decode cX8_none 13 = .ok (.iconst 0, 1) := by decide +kernel
theorem dX8_none_14 : decode cX8_none 14 = .ok (.sipush 3649, 3) := by decide +kernel
theorem dX8_none_17 : decode cX8_none 17 = .ok (.invokestatic 81, 3) := by decide +kernel
theorem dX8_none_20 : decode cX8_none 20 = .ok (.ifCond .eq 14, 3) := by decide +kernel
theorem dX8_none_23 : decode cX8_none 23 = .ok (.iload_n 3, 1) := by decide +kernel
theorem dX8_none_24 : decode cX8_none 24 = .ok (.iconst 0, 1) := by decide +kernel
theorem dX8_none_25 : decode cX8_none 25 = .ok (.sipush 9999, 3) := by decide +kernel
theorem dX8_none_28 : decode cX8_none 28 = .ok (.invokestatic 81, 3) := by decide +kernel
theorem dX8_none_31 : decode cX8_none 31 = .ok (.ifCond .ne 5, 3) := by decide +kernel
theorem dX8_none_34 : decode cX8_none 34 = .ok (.iconst (-1), 1) := by decide +kernel
theorem dX8_none_35 : decode cX8_none 35 = .ok (.ireturn, 1) := by decide +kernel
theorem dX8_none_36 : decode cX8_none 36 = .ok (.iload_n 3, 1) := by decide +kernel
theorem dX8_none_37 : decode cX8_none 37 = .ok (.ifCond .ne 7, 3) := by decide +kernel
theorem dX8_none_40 : decode cX8_none 40 = .ok (.sipush 1440, 3) := by decide +kernel
theorem dX8_none_43 : decode cX8_none 43 = .ok (.ireturn, 1) := by decide +kernel
theorem dX8_none_44 : decode cX8_none 44 = .ok (.iload_n 3, 1) := by decide +kernel
theorem dX8_none_45 : decode cX8_none 45 = .ok (.bipush 60, 2) := by decide +kernel
theorem dX8_none_47 : decode cX8_none 47 = .ok (.if_icmp .gt 17, 3) := by decide +kernel
theorem dX8_none_50 : decode cX8_none 50 = .ok (.aload 4, 2) := by decide +kernel
theorem dX8_none_52 : decode cX8_none 52 = .ok (.iload_n 2, 1) := by decide +kernel
theorem dX8_none_53 : decode cX8_none 53 = .ok (.invokevirtual 208, 3) := by decide +kernel
theorem dX8_none_56 : decode cX8_none 56 = .ok (.iconst (-1), 1) := by decide +kernel
theorem dX8_none_57 : decode cX8_none 57 = .ok (.if_icmp .eq 7, 3) := by decide +kernel
theorem dX8_none_60 : decode cX8_none 60 = .ok (.iload_n 3, 1) := by decide +kernel
theorem dX8_none_61 : decode cX8_none 61 = .ok (.goto 4, 3) := by decide +kernel
theorem dX8_none_64 : decode cX8_none 64 = .ok (.iconst 0, 1) := by decide +kernel
theorem dX8_none_65 : decode cX8_none 65 = .ok (.ireturn, 1) := by decide +kernel
theorem dX8_mark_0 : decode cX8_mark 0 = .ok (.iload_n 1, 1) := by decide +kernel
theorem dX8_mark_1 : decode cX8_mark 1 = .ok (.iconst 0, 1) := by decide +kernel
theorem dX8_mark_2 : decode cX8_mark 2 = .ok (.iconst 3, 1) := by decide +kernel
theorem dX8_mark_3 : decode cX8_mark 3 = .ok (.invokestatic 81, 3) := by decide +kernel
theorem dX8_mark_6 : decode cX8_mark 6 = .ok (.ifCond .ne 5, 3) := by decide +kernel
theorem dX8_mark_9 : decode cX8_mark 9 = .ok (.iconst 0, 1) := by decide +kernel
theorem dX8_mark_10 : decode cX8_mark 10 = .ok (.ireturn, 1) := by decide +kernel
theorem dX8_mark_11 : decode cX8_mark 11 = .ok (.iload_n 2, 1) := by decide +kernel
theorem dX8_mark_12 : decode cX8_mark 12 = .ok (.ifCond .eq 21, 3) := by decide +kernel
theorem dX8_mark_15 : decode cX8_mark 15 = .ok (.aload_n 0, 1) := by decide +kernel
theorem dX8_mark_16 : decode cX8_mark 16 = .ok (.getfield 211, 3) := by decide +kernel
theorem dX8_mark_19 : decode cX8_mark 19 = .ok (.iload_n 1, 1) := by decide +kernel
theorem dX8_mark_20 : decode cX8_mark 20 = .ok (.ishr, 1) := by decide +kernel
theorem dX8_mark_21 : decode cX8_mark 21 = .ok (.iconst 1, 1) := by decide +kernel
theorem dX8_mark_22 : decode cX8_mark 22 = .ok (.iand, 1) := by decide +kernel
theorem dX8_mark_23 : decode cX8_mark 23 = .ok (.iconst 1, 1) := by decide +kernel
theorem dX8_mark_24 : decode cX8_mark 24 = .ok (.if_icmp .ne 7, 3) := by decide +kernel
theorem dX8_mark_27 : decode cX8_mark 27 = .ok (.iconst 1, 1) := by decide +kernel
theorem dX8_mark_28 : decode cX8_mark 28 = .ok (.goto 4, 3) := by decide +kernel
theorem dX8_mark_31 : decode cX8_mark 31 = .ok (.iconst 0, 1) := by decide +kernel
theorem dX8_mark_32 : decode cX8_mark 32 = .ok (.ireturn, 1) := by decide +kernel
theorem dX8_mark_33 : decode cX8_mark 33 = .ok (.aload_n 0, 1) := by decide +kernel
theorem dX8_mark_34 : decode cX8_mark 34 = .ok (.dup, 1) := by decide +kernel
theorem dX8_mark_35 : decode cX8_mark 35 = .ok (.getfield 211, 3) := by decide +kernel
theorem dX8_mark_38 : decode cX8_mark 38 = .ok (.iconst 1, 1) := by decide +kernel
theorem dX8_mark_39 : decode cX8_mark 39 = .ok (.iload_n 1, 1) := by decide +kernel
theorem dX8_mark_40 : decode cX8_mark 40 = .ok (.ishl, 1) := by decide +kernel
theorem dX8_mark_41 : decode cX8_mark 41 = .ok (.ior, 1) := by decide +kernel
theorem dX8_mark_42 : decode cX8_mark 42 = .ok (.putfield 211, 3) := by decide +kernel
theorem dX8_mark_45 : decode cX8_mark 45 = .ok (.iconst 1, 1) := by decide +kernel
theorem dX8_mark_46 : decode cX8_mark 46 = .ok (.ireturn, 1) := by decide +kernel
theorem dX8_count_0 : decode cX8_count 0 = .ok (.iload_n 1, 1) := by decide +kernel
theorem dX8_count_1 : decode cX8_count 1 = .ok (.tableswitch 99 0 6 #[43, 51, 59, 67, 75, 83, 91], 43) := by decide +kernel
theorem dX8_count_44 : decode cX8_count 44 = .ok (.aload_n 0, 1) := by decide +kernel
theorem dX8_count_45 : decode cX8_count 45 = .ok (.getfield 54, 3) := by decide +kernel
theorem dX8_count_48 : decode cX8_count 48 = .ok (.getfield 191, 3) := by decide +kernel
theorem dX8_count_51 : decode cX8_count 51 = .ok (.ireturn, 1) := by decide +kernel
theorem dX8_count_52 : decode cX8_count 52 = .ok (.aload_n 0, 1) := by decide +kernel
theorem dX8_count_53 : decode cX8_count 53 = .ok (.getfield 54, 3) := by decide +kernel
theorem dX8_count_56 : decode cX8_count 56 = .ok (.getfield 141, 3) := by decide +kernel
theorem dX8_count_59 : decode cX8_count 59 = .ok (.ireturn, 1) := by decide +kernel
theorem dX8_count_60 : decode cX8_count 60 = .ok (.aload_n 0, 1) := by decide +kernel
theorem dX8_count_61 : decode cX8_count 61 = .ok (.getfield 54, 3) := by decide +kernel
theorem dX8_count_64 : decode cX8_count 64 = .ok (.getfield 166, 3) := by decide +kernel
theorem dX8_count_67 : decode cX8_count 67 = .ok (.ireturn, 1) := by decide +kernel
theorem dX8_count_68 : decode cX8_count 68 = .ok (.aload_n 0, 1) := by decide +kernel
theorem dX8_count_69 : decode cX8_count 69 = .ok (.getfield 54, 3) := by decide +kernel
theorem dX8_count_72 : decode cX8_count 72 = .ok (.getfield 111, 3) := by decide +kernel
theorem dX8_count_75 : decode cX8_count 75 = .ok (.ireturn, 1) := by decide +kernel
theorem dX8_count_76 : decode cX8_count 76 = .ok (.aload_n 0, 1) := by decide +kernel
theorem dX8_count_77 : decode cX8_count 77 = .ok (.getfield 54, 3) := by decide +kernel
theorem dX8_count_80 : decode cX8_count 80 = .ok (.getfield 214, 3) := by decide +kernel
theorem dX8_count_83 : decode cX8_count 83 = .ok (.ireturn, 1) := by decide +kernel
theorem dX8_count_84 : decode cX8_count 84 = .ok (.aload_n 0, 1) := by decide +kernel
theorem dX8_count_85 : decode cX8_count 85 = .ok (.getfield 54, 3) := by decide +kernel
theorem dX8_count_88 : decode cX8_count 88 = .ok (.getfield 217, 3) := by decide +kernel
theorem dX8_count_91 : decode cX8_count 91 = .ok (.ireturn, 1) := by decide +kernel
theorem dX8_count_92 : decode cX8_count 92 = .ok (.aload_n 0, 1) := by decide +kernel
theorem dX8_count_93 : decode cX8_count 93 = .ok (.getfield 10, 3) := by decide +kernel
theorem dX8_count_96 : decode cX8_count 96 = .ok (.getfield 65, 3) := by decide +kernel
theorem dX8_count_99 : decode cX8_count 99 = .ok (.ireturn, 1) := by decide +kernel
theorem dX8_count_100 : decode cX8_count 100 = .ok (.iconst (-1), 1) := by decide +kernel
theorem dX8_count_101 : decode cX8_count 101 = .ok (.ireturn, 1) := by decide +kernel
theorem dX8_takeSpare_0 : decode cX8_takeSpare 0 = .ok (.aload_n 0, 1) := by decide +kernel
theorem dX8_takeSpare_1 : decode cX8_takeSpare 1 = .ok (.getfield 54, 3) := by decide +kernel
theorem dX8_takeSpare_4 : decode cX8_takeSpare 4 = .ok (.astore_n 1, 1) := by decide +kernel
theorem dX8_takeSpare_5 : decode cX8_takeSpare 5 = .ok (.aload_n 0, 1) := by decide +kernel
theorem dX8_takeSpare_6 : decode cX8_takeSpare 6 = .ok (.aload_n 0, 1) := by decide +kernel
theorem dX8_takeSpare_7 : decode cX8_takeSpare 7 = .ok (.getfield 58, 3) := by decide +kernel
theorem dX8_takeSpare_10 : decode cX8_takeSpare 10 = .ok (.putfield 54, 3) := by decide +kernel
theorem dX8_takeSpare_13 : decode cX8_takeSpare 13 = .ok (.aload_n 0, 1) := by decide +kernel
theorem dX8_takeSpare_14 : decode cX8_takeSpare 14 = .ok (.aload_n 1, 1) := by decide +kernel
theorem dX8_takeSpare_15 : decode cX8_takeSpare 15 = .ok (.putfield 58, 3) := by decide +kernel
theorem dX8_takeSpare_18 : decode cX8_takeSpare 18 = .ok (.aload_n 0, 1) := by decide +kernel
theorem dX8_takeSpare_19 : decode cX8_takeSpare 19 = .ok (.iconst 0, 1) := by decide +kernel
theorem dX8_takeSpare_20 : decode cX8_takeSpare 20 = .ok (.putfield 211, 3) := by decide +kernel
theorem dX8_takeSpare_23 : decode cX8_takeSpare 23 = .ok (.aload_n 0, 1) := by decide +kernel
theorem dX8_takeSpare_24 : decode cX8_takeSpare 24 = .ok (.getfield 26, 3) := by decide +kernel
theorem dX8_takeSpare_27 : decode cX8_takeSpare 27 = .ok (.invokevirtual 220, 3) := by decide +kernel
theorem dX8_takeSpare_30 : decode cX8_takeSpare 30 = .ok (.aload_n 0, 1) := by decide +kernel
theorem dX8_takeSpare_31 : decode cX8_takeSpare 31 = .ok (.getfield 33, 3) := by decide +kernel
theorem dX8_takeSpare_34 : decode cX8_takeSpare 34 = .ok (.invokevirtual 223, 3) := by decide +kernel
theorem dX8_takeSpare_37 : decode cX8_takeSpare 37 = .ok (.aload_n 0, 1) := by decide +kernel
theorem dX8_takeSpare_38 : decode cX8_takeSpare 38 = .ok (.getfield 47, 3) := by decide +kernel
theorem dX8_takeSpare_41 : decode cX8_takeSpare 41 = .ok (.invokevirtual 224, 3) := by decide +kernel
theorem dX8_takeSpare_44 : decode cX8_takeSpare 44 = .ok (.return_, 1) := by decide +kernel
theorem dX8_preparePlan_0 : decode cX8_preparePlan 0 = .ok (.aload_n 0, 1) := by decide +kernel
theorem dX8_preparePlan_1 : decode cX8_preparePlan 1 = .ok (.getfield 54, 3) := by decide +kernel
theorem dX8_preparePlan_4 : decode cX8_preparePlan 4 = .ok (.getfield 191, 3) := by decide +kernel
theorem dX8_preparePlan_7 : decode cX8_preparePlan 7 = .ok (.ifCond .eq 14, 3) := by decide +kernel
theorem dX8_preparePlan_10 : decode cX8_preparePlan 10 = .ok (.iload_n 1, 1) := by decide +kernel
theorem dX8_preparePlan_11 : decode cX8_preparePlan 11 = .ok (.iconst 0, 1) := by decide +kernel
theorem dX8_preparePlan_12 : decode cX8_preparePlan 12 = .ok (.sipush 3649, 3) := by decide +kernel
theorem dX8_preparePlan_15 : decode cX8_preparePlan 15 = .ok (.invokestatic 81, 3) := by decide +kernel
theorem dX8_preparePlan_18 : decode cX8_preparePlan 18 = .ok (.ifCond .ne 5, 3) := by decide +kernel
theorem dX8_preparePlan_21 : decode cX8_preparePlan 21 = .ok (.iconst 0, 1) := by decide +kernel
theorem dX8_preparePlan_22 : decode cX8_preparePlan 22 = .ok (.ireturn, 1) := by decide +kernel
theorem dX8_preparePlan_23 : decode cX8_preparePlan 23 = .ok (.aload_n 0, 1) := by decide +kernel
theorem dX8_preparePlan_24 : decode cX8_preparePlan 24 = .ok (.getfield 33, 3) := by decide +kernel
theorem dX8_preparePlan_27 : decode cX8_preparePlan 27 = .ok (.aload_n 0, 1) := by decide +kernel
theorem dX8_preparePlan_28 : decode cX8_preparePlan 28 = .ok (.getfield 54, 3) := by decide +kernel
theorem dX8_preparePlan_31 : decode cX8_preparePlan 31 = .ok (.iload_n 1, 1) := by decide +kernel
theorem dX8_preparePlan_32 : decode cX8_preparePlan 32 = .ok (.invokevirtual 225, 3) := by decide +kernel
theorem dX8_preparePlan_35 : decode cX8_preparePlan 35 = .ok (.iconst 1, 1) := by decide +kernel
theorem dX8_preparePlan_36 : decode cX8_preparePlan 36 = .ok (.ireturn, 1) := by decide +kernel
theorem dX8_prepareJourney_0 : decode cX8_prepareJourney 0 = .ok (.aload_n 0, 1) := by decide +kernel
theorem dX8_prepareJourney_1 : decode cX8_prepareJourney 1 = .ok (.getfield 54, 3) := by decide +kernel
theorem dX8_prepareJourney_4 : decode cX8_prepareJourney 4 = .ok (.getfield 191, 3) := by decide +kernel
theorem dX8_prepareJourney_7 : decode cX8_prepareJourney 7 = .ok (.ifCond .eq 23, 3) := by decide +kernel
theorem dX8_prepareJourney_10 : decode cX8_prepareJourney 10 = .ok (.iload_n 2, 1) := by decide +kernel
theorem dX8_prepareJourney_11 : decode cX8_prepareJourney 11 = .ok (.iconst 0, 1) := by decide +kernel
theorem dX8_prepareJourney_12 : decode cX8_prepareJourney 12 = .ok (.sipush 3649, 3) := by decide +kernel
theorem dX8_prepareJourney_15 : decode cX8_prepareJourney 15 = .ok (.invokestatic 81, 3) := by decide +kernel
theorem dX8_prepareJourney_18 : decode cX8_prepareJourney 18 = .ok (.ifCond .eq 12, 3) := by decide +kernel
theorem dX8_prepareJourney_21 : decode cX8_prepareJourney 21 = .ok (.iload_n 1, 1) := by decide +kernel
theorem dX8_prepareJourney_22 : decode cX8_prepareJourney 22 = .ok (.iconst 0, 1) := by decide +kernel
theorem dX8_prepareJourney_23 : decode cX8_prepareJourney 23 = .ok (.iload_n 2, 1) := by decide +kernel
theorem dX8_prepareJourney_24 : decode cX8_prepareJourney 24 = .ok (.invokestatic 81, 3) := by decide +kernel
theorem dX8_prepareJourney_27 : decode cX8_prepareJourney 27 = .ok (.ifCond .ne 5, 3) := by decide +kernel
theorem dX8_prepareJourney_30 : decode cX8_prepareJourney 30 = .ok (.iconst 0, 1) := by decide +kernel
theorem dX8_prepareJourney_31 : decode cX8_prepareJourney 31 = .ok (.ireturn, 1) := by decide +kernel
theorem dX8_prepareJourney_32 : decode cX8_prepareJourney 32 = .ok (.aload_n 0, 1) := by decide +kernel
theorem dX8_prepareJourney_33 : decode cX8_prepareJourney 33 = .ok (.getfield 47, 3) := by decide +kernel
theorem dX8_prepareJourney_36 : decode cX8_prepareJourney 36 = .ok (.aload_n 0, 1) := by decide +kernel
theorem dX8_prepareJourney_37 : decode cX8_prepareJourney 37 = .ok (.getfield 54, 3) := by decide +kernel
theorem dX8_prepareJourney_40 : decode cX8_prepareJourney 40 = .ok (.iload_n 1, 1) := by decide +kernel
theorem dX8_prepareJourney_41 : decode cX8_prepareJourney 41 = .ok (.iload_n 2, 1) := by decide +kernel
theorem dX8_prepareJourney_42 : decode cX8_prepareJourney 42 = .ok (.invokevirtual 228, 3) := by decide +kernel
theorem dX8_prepareJourney_45 : decode cX8_prepareJourney 45 = .ok (.iconst 1, 1) := by decide +kernel
theorem dX8_prepareJourney_46 : decode cX8_prepareJourney 46 = .ok (.ireturn, 1) := by decide +kernel
theorem dX8_clockOf_0 : decode cX8_clockOf 0 = .ok (.iload_n 1, 1) := by decide +kernel
theorem dX8_clockOf_1 : decode cX8_clockOf 1 = .ok (.iconst 0, 1) := by decide +kernel
theorem dX8_clockOf_2 : decode cX8_clockOf 2 = .ok (.aload_n 0, 1) := by decide +kernel
theorem dX8_clockOf_3 : decode cX8_clockOf 3 = .ok (.getfield 54, 3) := by decide +kernel
theorem dX8_clockOf_6 : decode cX8_clockOf 6 = .ok (.getfield 191, 3) := by decide +kernel
theorem dX8_clockOf_9 : decode cX8_clockOf 9 = .ok (.iconst 1, 1) := by decide +kernel
theorem dX8_clockOf_10 : decode cX8_clockOf 10 = .ok (.isub, 1) := by decide +kernel
theorem dX8_clockOf_11 : decode cX8_clockOf 11 = .ok (.invokestatic 81, 3) := by decide +kernel
theorem dX8_clockOf_14 : decode cX8_clockOf 14 = .ok (.ifCond .eq 15, 3) := by decide +kernel
theorem dX8_clockOf_17 : decode cX8_clockOf 17 = .ok (.aload_n 0, 1) := by decide +kernel
theorem dX8_clockOf_18 : decode cX8_clockOf 18 = .ok (.getfield 54, 3) := by decide +kernel
theorem dX8_clockOf_21 : decode cX8_clockOf 21 = .ok (.getfield 231, 3) := by decide +kernel
theorem dX8_clockOf_24 : decode cX8_clockOf 24 = .ok (.iload_n 1, 1) := by decide +kernel
theorem dX8_clockOf_25 : decode cX8_clockOf 25 = .ok (.aaload, 1) := by decide +kernel
theorem dX8_clockOf_26 : decode cX8_clockOf 26 = .ok (.goto 4, 3) := by decide +kernel
theorem dX8_clockOf_29 : decode cX8_clockOf 29 = .ok (.aconst_null, 1) := by decide +kernel
theorem dX8_clockOf_30 : decode cX8_clockOf 30 = .ok (.areturn, 1) := by decide +kernel
theorem dX8_clockTime_0 : decode cX8_clockTime 0 = .ok (.iload_n 0, 1) := by decide +kernel
theorem dX8_clockTime_1 : decode cX8_clockTime 1 = .ok (.iconst 0, 1) := by decide +kernel
theorem dX8_clockTime_2 : decode cX8_clockTime 2 = .ok (.sipush 3649, 3) := by decide +kernel
theorem dX8_clockTime_5 : decode cX8_clockTime 5 = .ok (.invokestatic 81, 3) := by decide +kernel
theorem dX8_clockTime_8 : decode cX8_clockTime 8 = .ok (.ifCond .eq 24, 3) := by decide +kernel
theorem dX8_clockTime_11 : decode cX8_clockTime 11 = .ok (.iload_n 1, 1) := by decide +kernel
theorem dX8_clockTime_12 : decode cX8_clockTime 12 = .ok (.iconst 0, 1) := by decide +kernel
theorem dX8_clockTime_13 : decode cX8_clockTime 13 = .ok (.sipush 1439, 3) := by decide +kernel
theorem dX8_clockTime_16 : decode cX8_clockTime 16 = .ok (.invokestatic 81, 3) := by decide +kernel
theorem dX8_clockTime_19 : decode cX8_clockTime 19 = .ok (.ifCond .eq 13, 3) := by decide +kernel
theorem dX8_clockTime_22 : decode cX8_clockTime 22 = .ok (.iload_n 0, 1) := by decide +kernel
theorem dX8_clockTime_23 : decode cX8_clockTime 23 = .ok (.sipush 1440, 3) := by decide +kernel
theorem dX8_clockTime_26 : decode cX8_clockTime 26 = .ok (.imul, 1) := by decide +kernel
theorem dX8_clockTime_27 : decode cX8_clockTime 27 = .ok (.iload_n 1, 1) := by decide +kernel
theorem dX8_clockTime_28 : decode cX8_clockTime 28 = .ok (.iadd, 1) := by decide +kernel
theorem dX8_clockTime_29 : decode cX8_clockTime 29 = .ok (.goto 4, 3) := by decide +kernel
theorem dX8_clockTime_32 : decode cX8_clockTime 32 = .ok (.iconst (-1), 1) := by decide +kernel
theorem dX8_clockTime_33 : decode cX8_clockTime 33 = .ok (.ireturn, 1) := by decide +kernel
theorem dX8_paidMinutes_0 : decode cX8_paidMinutes 0 = .ok (.iload_n 3, 1) := by decide +kernel
theorem dX8_paidMinutes_1 : decode cX8_paidMinutes 1 = .ok (.tableswitch 55 0 2 #[27, 31, 43], 27) := by decide +kernel
theorem dX8_paidMinutes_28 : decode cX8_paidMinutes 28 = .ok (.iload_n 2, 1) := by decide +kernel
theorem dX8_paidMinutes_29 : decode cX8_paidMinutes 29 = .ok (.iload_n 1, 1) := by decide +kernel
theorem dX8_paidMinutes_30 : decode cX8_paidMinutes 30 = .ok (.isub, 1) := by decide +kernel
theorem dX8_paidMinutes_31 : decode cX8_paidMinutes 31 = .ok (.ireturn, 1) := by decide +kernel
theorem dX8_paidMinutes_32 : decode cX8_paidMinutes 32 = .ok (.aload_n 0, 1) := by decide +kernel
theorem dX8_paidMinutes_33 : decode cX8_paidMinutes 33 = .ok (.iload_n 2, 1) := by decide +kernel
theorem dX8_paidMinutes_34 : decode cX8_paidMinutes 34 = .ok (.invokevirtual 102, 3) := by decide +kernel
theorem dX8_paidMinutes_37 : decode cX8_paidMinutes 37 = .ok (.aload_n 0, 1) := by decide +kernel
theorem dX8_paidMinutes_38 : decode cX8_paidMinutes 38 = .ok (.iload_n 1, 1) := by decide +kernel
theorem dX8_paidMinutes_39 : decode cX8_paidMinutes 39 = .ok (.invokevirtual 102, 3) := by decide +kernel
theorem dX8_paidMinutes_42 : decode cX8_paidMinutes 42 = .ok (.isub, 1) := by decide +kernel
theorem dX8_paidMinutes_43 : decode cX8_paidMinutes 43 = .ok (.ireturn, 1) := by decide +kernel
theorem dX8_paidMinutes_44 : decode cX8_paidMinutes 44 = .ok (.aload_n 0, 1) := by decide +kernel
theorem dX8_paidMinutes_45 : decode cX8_paidMinutes 45 = .ok (.iload_n 2, 1) := by decide +kernel
theorem dX8_paidMinutes_46 : decode cX8_paidMinutes 46 = .ok (.invokevirtual 105, 3) := by decide +kernel
theorem dX8_paidMinutes_49 : decode cX8_paidMinutes 49 = .ok (.aload_n 0, 1) := by decide +kernel
theorem dX8_paidMinutes_50 : decode cX8_paidMinutes 50 = .ok (.iload_n 1, 1) := by decide +kernel
theorem dX8_paidMinutes_51 : decode cX8_paidMinutes 51 = .ok (.invokevirtual 102, 3) := by decide +kernel
theorem dX8_paidMinutes_54 : decode cX8_paidMinutes 54 = .ok (.isub, 1) := by decide +kernel
theorem dX8_paidMinutes_55 : decode cX8_paidMinutes 55 = .ok (.ireturn, 1) := by decide +kernel
theorem dX8_paidMinutes_56 : decode cX8_paidMinutes 56 = .ok (.aload_n 0, 1) := by decide +kernel
theorem dX8_paidMinutes_57 : decode cX8_paidMinutes 57 = .ok (.iload_n 2, 1) := by decide +kernel
theorem dX8_paidMinutes_58 : decode cX8_paidMinutes 58 = .ok (.invokevirtual 102, 3) := by decide +kernel
theorem dX8_paidMinutes_61 : decode cX8_paidMinutes 61 = .ok (.aload_n 0, 1) := by decide +kernel
theorem dX8_paidMinutes_62 : decode cX8_paidMinutes 62 = .ok (.iload_n 1, 1) := by decide +kernel
theorem dX8_paidMinutes_63 : decode cX8_paidMinutes 63 = .ok (.invokevirtual 105, 3) := by decide +kernel
theorem dX8_paidMinutes_66 : decode cX8_paidMinutes 66 = .ok (.isub, 1) := by decide +kernel
theorem dX8_paidMinutes_67 : decode cX8_paidMinutes 67 = .ok (.ireturn, 1) := by decide +kernel
theorem dX8_within_0 : decode cX8_within 0 = .ok (.iload_n 0, 1) := by decide +kernel
theorem dX8_within_1 : decode cX8_within 1 = .ok (.iload_n 1, 1) := by decide +kernel
theorem dX8_within_2 : decode cX8_within 2 = .ok (.if_icmp .lt 12, 3) := by decide +kernel
theorem dX8_within_5 : decode cX8_within 5 = .ok (.iload_n 0, 1) := by decide +kernel
theorem dX8_within_6 : decode cX8_within 6 = .ok (.iload_n 2, 1) := by decide +kernel
theorem dX8_within_7 : decode cX8_within 7 = .ok (.if_icmp .gt 7, 3) := by decide +kernel
theorem dX8_within_10 : decode cX8_within 10 = .ok (.iconst 1, 1) := by decide +kernel
theorem dX8_within_11 : decode cX8_within 11 = .ok (.goto 4, 3) := by decide +kernel
theorem dX8_within_14 : decode cX8_within 14 = .ok (.iconst 0, 1) := by decide +kernel
theorem dX8_within_15 : decode cX8_within 15 = .ok (.ireturn, 1) := by decide +kernel
theorem dJ6_numberOfTrailingZeros_0f7a4_0 : decode cJ6_numberOfTrailingZeros_0f7a4 0 = .ok (.iload_n 0, 1) := by decide +kernel
theorem dJ6_numberOfTrailingZeros_0f7a4_1 : decode cJ6_numberOfTrailingZeros_0f7a4 1 = .ok (.iconst (-1), 1) := by decide +kernel
theorem dJ6_numberOfTrailingZeros_0f7a4_2 : decode cJ6_numberOfTrailingZeros_0f7a4 2 = .ok (.ixor, 1) := by decide +kernel
theorem dJ6_numberOfTrailingZeros_0f7a4_3 : decode cJ6_numberOfTrailingZeros_0f7a4 3 = .ok (.iload_n 0, 1) := by decide +kernel
theorem dJ6_numberOfTrailingZeros_0f7a4_4 : decode cJ6_numberOfTrailingZeros_0f7a4 4 = .ok (.iconst 1, 1) := by decide +kernel
theorem dJ6_numberOfTrailingZeros_0f7a4_5 : decode cJ6_numberOfTrailingZeros_0f7a4 5 = .ok (.isub, 1) := by decide +kernel
theorem dJ6_numberOfTrailingZeros_0f7a4_6 : decode cJ6_numberOfTrailingZeros_0f7a4 6 = .ok (.iand, 1) := by decide +kernel
theorem dJ6_numberOfTrailingZeros_0f7a4_7 : decode cJ6_numberOfTrailingZeros_0f7a4 7 = .ok (.istore_n 0, 1) := by decide +kernel
theorem dJ6_numberOfTrailingZeros_0f7a4_8 : decode cJ6_numberOfTrailingZeros_0f7a4 8 = .ok (.iload_n 0, 1) := by decide +kernel
theorem dJ6_numberOfTrailingZeros_0f7a4_9 : decode cJ6_numberOfTrailingZeros_0f7a4 9 = .ok (.ifCond .gt 8, 3) := by decide +kernel
theorem dJ6_numberOfTrailingZeros_0f7a4_12 : decode cJ6_numberOfTrailingZeros_0f7a4 12 = .ok (.iload_n 0, 1) := by decide +kernel
theorem dJ6_numberOfTrailingZeros_0f7a4_13 : decode cJ6_numberOfTrailingZeros_0f7a4 13 = .ok (.bipush 32, 2) := by decide +kernel
theorem dJ6_numberOfTrailingZeros_0f7a4_15 : decode cJ6_numberOfTrailingZeros_0f7a4 15 = .ok (.iand, 1) := by decide +kernel
theorem dJ6_numberOfTrailingZeros_0f7a4_16 : decode cJ6_numberOfTrailingZeros_0f7a4 16 = .ok (.ireturn, 1) := by decide +kernel
theorem dJ6_numberOfTrailingZeros_0f7a4_17 : decode cJ6_numberOfTrailingZeros_0f7a4 17 = .ok (.iconst 1, 1) := by decide +kernel
theorem dJ6_numberOfTrailingZeros_0f7a4_18 : decode cJ6_numberOfTrailingZeros_0f7a4 18 = .ok (.istore_n 1, 1) := by decide +kernel
theorem dJ6_numberOfTrailingZeros_0f7a4_19 : decode cJ6_numberOfTrailingZeros_0f7a4 19 = .ok (.iload_n 0, 1) := by decide +kernel
theorem dJ6_numberOfTrailingZeros_0f7a4_20 : decode cJ6_numberOfTrailingZeros_0f7a4 20 = .ok (.ldc_w 264, 3) := by decide +kernel
theorem dJ6_numberOfTrailingZeros_0f7a4_23 : decode cJ6_numberOfTrailingZeros_0f7a4 23 = .ok (.if_icmp .le 11, 3) := by decide +kernel
theorem dJ6_numberOfTrailingZeros_0f7a4_26 : decode cJ6_numberOfTrailingZeros_0f7a4 26 = .ok (.iinc 1 16, 3) := by decide +kernel
theorem dJ6_numberOfTrailingZeros_0f7a4_29 : decode cJ6_numberOfTrailingZeros_0f7a4 29 = .ok (.iload_n 0, 1) := by decide +kernel
theorem dJ6_numberOfTrailingZeros_0f7a4_30 : decode cJ6_numberOfTrailingZeros_0f7a4 30 = .ok (.bipush 16, 2) := by decide +kernel
theorem dJ6_numberOfTrailingZeros_0f7a4_32 : decode cJ6_numberOfTrailingZeros_0f7a4 32 = .ok (.iushr, 1) := by decide +kernel
theorem dJ6_numberOfTrailingZeros_0f7a4_33 : decode cJ6_numberOfTrailingZeros_0f7a4 33 = .ok (.istore_n 0, 1) := by decide +kernel
theorem dJ6_numberOfTrailingZeros_0f7a4_34 : decode cJ6_numberOfTrailingZeros_0f7a4 34 = .ok (.iload_n 0, 1) := by decide +kernel
theorem dJ6_numberOfTrailingZeros_0f7a4_35 : decode cJ6_numberOfTrailingZeros_0f7a4 35 = .ok (.sipush 256, 3) := by decide +kernel
theorem dJ6_numberOfTrailingZeros_0f7a4_38 : decode cJ6_numberOfTrailingZeros_0f7a4 38 = .ok (.if_icmp .le 11, 3) := by decide +kernel
theorem dJ6_numberOfTrailingZeros_0f7a4_41 : decode cJ6_numberOfTrailingZeros_0f7a4 41 = .ok (.iinc 1 8, 3) := by decide +kernel
theorem dJ6_numberOfTrailingZeros_0f7a4_44 : decode cJ6_numberOfTrailingZeros_0f7a4 44 = .ok (.iload_n 0, 1) := by decide +kernel
theorem dJ6_numberOfTrailingZeros_0f7a4_45 : decode cJ6_numberOfTrailingZeros_0f7a4 45 = .ok (.bipush 8, 2) := by decide +kernel
theorem dJ6_numberOfTrailingZeros_0f7a4_47 : decode cJ6_numberOfTrailingZeros_0f7a4 47 = .ok (.iushr, 1) := by decide +kernel
theorem dJ6_numberOfTrailingZeros_0f7a4_48 : decode cJ6_numberOfTrailingZeros_0f7a4 48 = .ok (.istore_n 0, 1) := by decide +kernel
theorem dJ6_numberOfTrailingZeros_0f7a4_49 : decode cJ6_numberOfTrailingZeros_0f7a4 49 = .ok (.iload_n 0, 1) := by decide +kernel
theorem dJ6_numberOfTrailingZeros_0f7a4_50 : decode cJ6_numberOfTrailingZeros_0f7a4 50 = .ok (.bipush 16, 2) := by decide +kernel
theorem dJ6_numberOfTrailingZeros_0f7a4_52 : decode cJ6_numberOfTrailingZeros_0f7a4 52 = .ok (.if_icmp .le 10, 3) := by decide +kernel
theorem dJ6_numberOfTrailingZeros_0f7a4_55 : decode cJ6_numberOfTrailingZeros_0f7a4 55 = .ok (.iinc 1 4, 3) := by decide +kernel
theorem dJ6_numberOfTrailingZeros_0f7a4_58 : decode cJ6_numberOfTrailingZeros_0f7a4 58 = .ok (.iload_n 0, 1) := by decide +kernel
theorem dJ6_numberOfTrailingZeros_0f7a4_59 : decode cJ6_numberOfTrailingZeros_0f7a4 59 = .ok (.iconst 4, 1) := by decide +kernel
theorem dJ6_numberOfTrailingZeros_0f7a4_60 : decode cJ6_numberOfTrailingZeros_0f7a4 60 = .ok (.iushr, 1) := by decide +kernel
theorem dJ6_numberOfTrailingZeros_0f7a4_61 : decode cJ6_numberOfTrailingZeros_0f7a4 61 = .ok (.istore_n 0, 1) := by decide +kernel
theorem dJ6_numberOfTrailingZeros_0f7a4_62 : decode cJ6_numberOfTrailingZeros_0f7a4 62 = .ok (.iload_n 0, 1) := by decide +kernel
theorem dJ6_numberOfTrailingZeros_0f7a4_63 : decode cJ6_numberOfTrailingZeros_0f7a4 63 = .ok (.iconst 4, 1) := by decide +kernel
theorem dJ6_numberOfTrailingZeros_0f7a4_64 : decode cJ6_numberOfTrailingZeros_0f7a4 64 = .ok (.if_icmp .le 10, 3) := by decide +kernel
theorem dJ6_numberOfTrailingZeros_0f7a4_67 : decode cJ6_numberOfTrailingZeros_0f7a4 67 = .ok (.iinc 1 2, 3) := by decide +kernel
theorem dJ6_numberOfTrailingZeros_0f7a4_70 : decode cJ6_numberOfTrailingZeros_0f7a4 70 = .ok (.iload_n 0, 1) := by decide +kernel
theorem dJ6_numberOfTrailingZeros_0f7a4_71 : decode cJ6_numberOfTrailingZeros_0f7a4 71 = .ok (.iconst 2, 1) := by decide +kernel
theorem dJ6_numberOfTrailingZeros_0f7a4_72 : decode cJ6_numberOfTrailingZeros_0f7a4 72 = .ok (.iushr, 1) := by decide +kernel
theorem dJ6_numberOfTrailingZeros_0f7a4_73 : decode cJ6_numberOfTrailingZeros_0f7a4 73 = .ok (.istore_n 0, 1) := by decide +kernel
theorem dJ6_numberOfTrailingZeros_0f7a4_74 : decode cJ6_numberOfTrailingZeros_0f7a4 74 = .ok (.iload_n 1, 1) := by decide +kernel
theorem dJ6_numberOfTrailingZeros_0f7a4_75 : decode cJ6_numberOfTrailingZeros_0f7a4 75 = .ok (.iload_n 0, 1) := by decide +kernel
theorem dJ6_numberOfTrailingZeros_0f7a4_76 : decode cJ6_numberOfTrailingZeros_0f7a4 76 = .ok (.iconst 1, 1) := by decide +kernel
theorem dJ6_numberOfTrailingZeros_0f7a4_77 : decode cJ6_numberOfTrailingZeros_0f7a4 77 = .ok (.iushr, 1) := by decide +kernel
theorem dJ6_numberOfTrailingZeros_0f7a4_78 : decode cJ6_numberOfTrailingZeros_0f7a4 78 = .ok (.iadd, 1) := by decide +kernel
theorem dJ6_numberOfTrailingZeros_0f7a4_79 : decode cJ6_numberOfTrailingZeros_0f7a4 79 = .ok (.ireturn, 1) := by decide +kernel
theorem dJ6_bitCount_0f7a4_0 : decode cJ6_bitCount_0f7a4 0 = .ok (.iload_n 0, 1) := by decide +kernel
theorem dJ6_bitCount_0f7a4_1 : decode cJ6_bitCount_0f7a4 1 = .ok (.iload_n 0, 1) := by decide +kernel
theorem dJ6_bitCount_0f7a4_2 : decode cJ6_bitCount_0f7a4 2 = .ok (.iconst 1, 1) := by decide +kernel
theorem dJ6_bitCount_0f7a4_3 : decode cJ6_bitCount_0f7a4 3 = .ok (.iushr, 1) := by decide +kernel
theorem dJ6_bitCount_0f7a4_4 : decode cJ6_bitCount_0f7a4 4 = .ok (.ldc_w 265, 3) := by decide +kernel
theorem dJ6_bitCount_0f7a4_7 : decode cJ6_bitCount_0f7a4 7 = .ok (.iand, 1) := by decide +kernel
theorem dJ6_bitCount_0f7a4_8 : decode cJ6_bitCount_0f7a4 8 = .ok (.isub, 1) := by decide +kernel
theorem dJ6_bitCount_0f7a4_9 : decode cJ6_bitCount_0f7a4 9 = .ok (.istore_n 0, 1) := by decide +kernel
theorem dJ6_bitCount_0f7a4_10 : decode cJ6_bitCount_0f7a4 10 = .ok (.iload_n 0, 1) := by decide +kernel
theorem dJ6_bitCount_0f7a4_11 : decode cJ6_bitCount_0f7a4 11 = .ok (.ldc_w 266, 3) := by decide +kernel
theorem dJ6_bitCount_0f7a4_14 : decode cJ6_bitCount_0f7a4 14 = .ok (.iand, 1) := by decide +kernel
theorem dJ6_bitCount_0f7a4_15 : decode cJ6_bitCount_0f7a4 15 = .ok (.iload_n 0, 1) := by decide +kernel
theorem dJ6_bitCount_0f7a4_16 : decode cJ6_bitCount_0f7a4 16 = .ok (.iconst 2, 1) := by decide +kernel
theorem dJ6_bitCount_0f7a4_17 : decode cJ6_bitCount_0f7a4 17 = .ok (.iushr, 1) := by decide +kernel
theorem dJ6_bitCount_0f7a4_18 : decode cJ6_bitCount_0f7a4 18 = .ok (.ldc_w 266, 3) := by decide +kernel
theorem dJ6_bitCount_0f7a4_21 : decode cJ6_bitCount_0f7a4 21 = .ok (.iand, 1) := by decide +kernel
theorem dJ6_bitCount_0f7a4_22 : decode cJ6_bitCount_0f7a4 22 = .ok (.iadd, 1) := by decide +kernel
theorem dJ6_bitCount_0f7a4_23 : decode cJ6_bitCount_0f7a4 23 = .ok (.istore_n 0, 1) := by decide +kernel
theorem dJ6_bitCount_0f7a4_24 : decode cJ6_bitCount_0f7a4 24 = .ok (.iload_n 0, 1) := by decide +kernel
theorem dJ6_bitCount_0f7a4_25 : decode cJ6_bitCount_0f7a4 25 = .ok (.iload_n 0, 1) := by decide +kernel
theorem dJ6_bitCount_0f7a4_26 : decode cJ6_bitCount_0f7a4 26 = .ok (.iconst 4, 1) := by decide +kernel
theorem dJ6_bitCount_0f7a4_27 : decode cJ6_bitCount_0f7a4 27 = .ok (.iushr, 1) := by decide +kernel
theorem dJ6_bitCount_0f7a4_28 : decode cJ6_bitCount_0f7a4 28 = .ok (.iadd, 1) := by decide +kernel
theorem dJ6_bitCount_0f7a4_29 : decode cJ6_bitCount_0f7a4 29 = .ok (.ldc_w 267, 3) := by decide +kernel
theorem dJ6_bitCount_0f7a4_32 : decode cJ6_bitCount_0f7a4 32 = .ok (.iand, 1) := by decide +kernel
theorem dJ6_bitCount_0f7a4_33 : decode cJ6_bitCount_0f7a4 33 = .ok (.istore_n 0, 1) := by decide +kernel
theorem dJ6_bitCount_0f7a4_34 : decode cJ6_bitCount_0f7a4 34 = .ok (.iload_n 0, 1) := by decide +kernel
theorem dJ6_bitCount_0f7a4_35 : decode cJ6_bitCount_0f7a4 35 = .ok (.iload_n 0, 1) := by decide +kernel
theorem dJ6_bitCount_0f7a4_36 : decode cJ6_bitCount_0f7a4 36 = .ok (.bipush 8, 2) := by decide +kernel
theorem dJ6_bitCount_0f7a4_38 : decode cJ6_bitCount_0f7a4 38 = .ok (.iushr, 1) := by decide +kernel
theorem dJ6_bitCount_0f7a4_39 : decode cJ6_bitCount_0f7a4 39 = .ok (.iadd, 1) := by decide +kernel
theorem dJ6_bitCount_0f7a4_40 : decode cJ6_bitCount_0f7a4 40 = .ok (.istore_n 0, 1) := by decide +kernel
theorem dJ6_bitCount_0f7a4_41 : decode cJ6_bitCount_0f7a4 41 = .ok (.iload_n 0, 1) := by decide +kernel
theorem dJ6_bitCount_0f7a4_42 : decode cJ6_bitCount_0f7a4 42 = .ok (.iload_n 0, 1) := by decide +kernel
theorem dJ6_bitCount_0f7a4_43 : decode cJ6_bitCount_0f7a4 43 = .ok (.bipush 16, 2) := by decide +kernel
theorem dJ6_bitCount_0f7a4_45 : decode cJ6_bitCount_0f7a4 45 = .ok (.iushr, 1) := by decide +kernel
theorem dJ6_bitCount_0f7a4_46 : decode cJ6_bitCount_0f7a4 46 = .ok (.iadd, 1) := by decide +kernel
theorem dJ6_bitCount_0f7a4_47 : decode cJ6_bitCount_0f7a4 47 = .ok (.istore_n 0, 1) := by decide +kernel
theorem dJ6_bitCount_0f7a4_48 : decode cJ6_bitCount_0f7a4 48 = .ok (.iload_n 0, 1) := by decide +kernel
theorem dJ6_bitCount_0f7a4_49 : decode cJ6_bitCount_0f7a4 49 = .ok (.bipush 63, 2) := by decide +kernel
theorem dJ6_bitCount_0f7a4_51 : decode cJ6_bitCount_0f7a4 51 = .ok (.iand, 1) := by decide +kernel
theorem dJ6_bitCount_0f7a4_52 : decode cJ6_bitCount_0f7a4 52 = .ok (.ireturn, 1) := by decide +kernel
theorem dJ13_bitCount_95d88_0 : decode cJ13_bitCount_95d88 0 = .ok (.lload_n 0, 1) := by decide +kernel
theorem dJ13_bitCount_95d88_1 : decode cJ13_bitCount_95d88 1 = .ok (.lload_n 0, 1) := by decide +kernel
theorem dJ13_bitCount_95d88_2 : decode cJ13_bitCount_95d88 2 = .ok (.iconst 1, 1) := by decide +kernel
theorem dJ13_bitCount_95d88_3 : decode cJ13_bitCount_95d88 3 = .ok (.lushr, 1) := by decide +kernel
theorem dJ13_bitCount_95d88_4 : decode cJ13_bitCount_95d88 4 = .ok (.ldc2_w 314, 3) := by decide +kernel
theorem dJ13_bitCount_95d88_7 : decode cJ13_bitCount_95d88 7 = .ok (.land, 1) := by decide +kernel
theorem dJ13_bitCount_95d88_8 : decode cJ13_bitCount_95d88 8 = .ok (.lsub, 1) := by decide +kernel
theorem dJ13_bitCount_95d88_9 : decode cJ13_bitCount_95d88 9 = .ok (.lstore_n 0, 1) := by decide +kernel
theorem dJ13_bitCount_95d88_10 : decode cJ13_bitCount_95d88 10 = .ok (.lload_n 0, 1) := by decide +kernel
theorem dJ13_bitCount_95d88_11 : decode cJ13_bitCount_95d88 11 = .ok (.ldc2_w 316, 3) := by decide +kernel
theorem dJ13_bitCount_95d88_14 : decode cJ13_bitCount_95d88 14 = .ok (.land, 1) := by decide +kernel
theorem dJ13_bitCount_95d88_15 : decode cJ13_bitCount_95d88 15 = .ok (.lload_n 0, 1) := by decide +kernel
theorem dJ13_bitCount_95d88_16 : decode cJ13_bitCount_95d88 16 = .ok (.iconst 2, 1) := by decide +kernel
theorem dJ13_bitCount_95d88_17 : decode cJ13_bitCount_95d88 17 = .ok (.lushr, 1) := by decide +kernel
theorem dJ13_bitCount_95d88_18 : decode cJ13_bitCount_95d88 18 = .ok (.ldc2_w 316, 3) := by decide +kernel
theorem dJ13_bitCount_95d88_21 : decode cJ13_bitCount_95d88 21 = .ok (.land, 1) := by decide +kernel
theorem dJ13_bitCount_95d88_22 : decode cJ13_bitCount_95d88 22 = .ok (.ladd, 1) := by decide +kernel
theorem dJ13_bitCount_95d88_23 : decode cJ13_bitCount_95d88 23 = .ok (.lstore_n 0, 1) := by decide +kernel
theorem dJ13_bitCount_95d88_24 : decode cJ13_bitCount_95d88 24 = .ok (.lload_n 0, 1) := by decide +kernel
theorem dJ13_bitCount_95d88_25 : decode cJ13_bitCount_95d88 25 = .ok (.lload_n 0, 1) := by decide +kernel
theorem dJ13_bitCount_95d88_26 : decode cJ13_bitCount_95d88 26 = .ok (.iconst 4, 1) := by decide +kernel
theorem dJ13_bitCount_95d88_27 : decode cJ13_bitCount_95d88 27 = .ok (.lushr, 1) := by decide +kernel
theorem dJ13_bitCount_95d88_28 : decode cJ13_bitCount_95d88 28 = .ok (.ladd, 1) := by decide +kernel
theorem dJ13_bitCount_95d88_29 : decode cJ13_bitCount_95d88 29 = .ok (.ldc2_w 318, 3) := by decide +kernel
theorem dJ13_bitCount_95d88_32 : decode cJ13_bitCount_95d88 32 = .ok (.land, 1) := by decide +kernel
theorem dJ13_bitCount_95d88_33 : decode cJ13_bitCount_95d88 33 = .ok (.lstore_n 0, 1) := by decide +kernel
theorem dJ13_bitCount_95d88_34 : decode cJ13_bitCount_95d88 34 = .ok (.lload_n 0, 1) := by decide +kernel
theorem dJ13_bitCount_95d88_35 : decode cJ13_bitCount_95d88 35 = .ok (.lload_n 0, 1) := by decide +kernel
theorem dJ13_bitCount_95d88_36 : decode cJ13_bitCount_95d88 36 = .ok (.bipush 8, 2) := by decide +kernel
theorem dJ13_bitCount_95d88_38 : decode cJ13_bitCount_95d88 38 = .ok (.lushr, 1) := by decide +kernel
theorem dJ13_bitCount_95d88_39 : decode cJ13_bitCount_95d88 39 = .ok (.ladd, 1) := by decide +kernel
theorem dJ13_bitCount_95d88_40 : decode cJ13_bitCount_95d88 40 = .ok (.lstore_n 0, 1) := by decide +kernel
theorem dJ13_bitCount_95d88_41 : decode cJ13_bitCount_95d88 41 = .ok (.lload_n 0, 1) := by decide +kernel
theorem dJ13_bitCount_95d88_42 : decode cJ13_bitCount_95d88 42 = .ok (.lload_n 0, 1) := by decide +kernel
theorem dJ13_bitCount_95d88_43 : decode cJ13_bitCount_95d88 43 = .ok (.bipush 16, 2) := by decide +kernel
theorem dJ13_bitCount_95d88_45 : decode cJ13_bitCount_95d88 45 = .ok (.lushr, 1) := by decide +kernel
theorem dJ13_bitCount_95d88_46 : decode cJ13_bitCount_95d88 46 = .ok (.ladd, 1) := by decide +kernel
theorem dJ13_bitCount_95d88_47 : decode cJ13_bitCount_95d88 47 = .ok (.lstore_n 0, 1) := by decide +kernel
theorem dJ13_bitCount_95d88_48 : decode cJ13_bitCount_95d88 48 = .ok (.lload_n 0, 1) := by decide +kernel
theorem dJ13_bitCount_95d88_49 : decode cJ13_bitCount_95d88 49 = .ok (.lload_n 0, 1) := by decide +kernel
theorem dJ13_bitCount_95d88_50 : decode cJ13_bitCount_95d88 50 = .ok (.bipush 32, 2) := by decide +kernel
theorem dJ13_bitCount_95d88_52 : decode cJ13_bitCount_95d88 52 = .ok (.lushr, 1) := by decide +kernel
theorem dJ13_bitCount_95d88_53 : decode cJ13_bitCount_95d88 53 = .ok (.ladd, 1) := by decide +kernel
theorem dJ13_bitCount_95d88_54 : decode cJ13_bitCount_95d88 54 = .ok (.lstore_n 0, 1) := by decide +kernel
theorem dJ13_bitCount_95d88_55 : decode cJ13_bitCount_95d88 55 = .ok (.lload_n 0, 1) := by decide +kernel
theorem dJ13_bitCount_95d88_56 : decode cJ13_bitCount_95d88 56 = .ok (.l2i, 1) := by decide +kernel
theorem dJ13_bitCount_95d88_57 : decode cJ13_bitCount_95d88 57 = .ok (.bipush 127, 2) := by decide +kernel
theorem dJ13_bitCount_95d88_59 : decode cJ13_bitCount_95d88 59 = .ok (.iand, 1) := by decide +kernel
theorem dJ13_bitCount_95d88_60 : decode cJ13_bitCount_95d88 60 = .ok (.ireturn, 1) := by decide +kernel
theorem dJ7_fill_d0a16_0 : decode cJ7_fill_d0a16 0 = .ok (.iconst 0, 1) := by decide +kernel
theorem dJ7_fill_d0a16_1 : decode cJ7_fill_d0a16 1 = .ok (.istore_n 3, 1) := by decide +kernel
theorem dJ7_fill_d0a16_2 : decode cJ7_fill_d0a16 2 = .ok (.aload_n 0, 1) := by decide +kernel
theorem dJ7_fill_d0a16_3 : decode cJ7_fill_d0a16 3 = .ok (.arraylength, 1) := by decide +kernel
theorem dJ7_fill_d0a16_4 : decode cJ7_fill_d0a16 4 = .ok (.istore 4, 2) := by decide +kernel
theorem dJ7_fill_d0a16_6 : decode cJ7_fill_d0a16 6 = .ok (.iload_n 3, 1) := by decide +kernel
theorem dJ7_fill_d0a16_7 : decode cJ7_fill_d0a16 7 = .ok (.iload 4, 2) := by decide +kernel
theorem dJ7_fill_d0a16_9 : decode cJ7_fill_d0a16 9 = .ok (.if_icmp .ge 13, 3) := by decide +kernel
theorem dJ7_fill_d0a16_12 : decode cJ7_fill_d0a16 12 = .ok (.aload_n 0, 1) := by decide +kernel
theorem dJ7_fill_d0a16_13 : decode cJ7_fill_d0a16 13 = .ok (.iload_n 3, 1) := by decide +kernel
theorem dJ7_fill_d0a16_14 : decode cJ7_fill_d0a16 14 = .ok (.lload_n 1, 1) := by decide +kernel
theorem dJ7_fill_d0a16_15 : decode cJ7_fill_d0a16 15 = .ok (.lastore, 1) := by decide +kernel
theorem dJ7_fill_d0a16_16 : decode cJ7_fill_d0a16 16 = .ok (.iinc 3 1, 3) := by decide +kernel
theorem dJ7_fill_d0a16_19 : decode cJ7_fill_d0a16 19 = .ok (.goto (-13), 3) := by decide +kernel
theorem dJ7_fill_d0a16_22 : decode cJ7_fill_d0a16 22 = .ok (.return_, 1) := by decide +kernel
theorem dJ7_fill_53178_0 : decode cJ7_fill_53178 0 = .ok (.iconst 0, 1) := by decide +kernel
theorem dJ7_fill_53178_1 : decode cJ7_fill_53178 1 = .ok (.istore_n 2, 1) := by decide +kernel
theorem dJ7_fill_53178_2 : decode cJ7_fill_53178 2 = .ok (.aload_n 0, 1) := by decide +kernel
theorem dJ7_fill_53178_3 : decode cJ7_fill_53178 3 = .ok (.arraylength, 1) := by decide +kernel
theorem dJ7_fill_53178_4 : decode cJ7_fill_53178 4 = .ok (.istore_n 3, 1) := by decide +kernel
theorem dJ7_fill_53178_5 : decode cJ7_fill_53178 5 = .ok (.iload_n 2, 1) := by decide +kernel
theorem dJ7_fill_53178_6 : decode cJ7_fill_53178 6 = .ok (.iload_n 3, 1) := by decide +kernel
theorem dJ7_fill_53178_7 : decode cJ7_fill_53178 7 = .ok (.if_icmp .ge 13, 3) := by decide +kernel
theorem dJ7_fill_53178_10 : decode cJ7_fill_53178 10 = .ok (.aload_n 0, 1) := by decide +kernel
theorem dJ7_fill_53178_11 : decode cJ7_fill_53178 11 = .ok (.iload_n 2, 1) := by decide +kernel
theorem dJ7_fill_53178_12 : decode cJ7_fill_53178 12 = .ok (.iload_n 1, 1) := by decide +kernel
theorem dJ7_fill_53178_13 : decode cJ7_fill_53178 13 = .ok (.iastore, 1) := by decide +kernel
theorem dJ7_fill_53178_14 : decode cJ7_fill_53178 14 = .ok (.iinc 2 1, 3) := by decide +kernel
theorem dJ7_fill_53178_17 : decode cJ7_fill_53178 17 = .ok (.goto (-12), 3) := by decide +kernel
theorem dJ7_fill_53178_20 : decode cJ7_fill_53178 20 = .ok (.return_, 1) := by decide +kernel
