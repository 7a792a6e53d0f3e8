theorem dX4_init_0 : decode cX4_init 0 = .ok (.aload_n 0, 1) := by decide +kernel
theorem dX4_init_1 : decode cX4_init 1 = .ok (.invokespecial 3, 3) := by decide +kernel
theorem dX4_init_4 : decode cX4_init 4 = .ok (.aload_n 0, 1) := by decide +kernel
theorem dX4_init_5 : decode cX4_init 5 = .ok (.bipush 18, 2) := by decide +kernel
theorem dX4_init_7 : decode cX4_init 7 = .ok (.newarray .long, 2) := by decide +kernel
theorem dX4_init_9 : decode cX4_init 9 = .ok (.putfield 11, 3) := by decide +kernel
theorem dX4_init_12 : decode cX4_init 12 = .ok (.aload_n 0, 1) := by decide +kernel
theorem dX4_init_13 : decode cX4_init 13 = .ok (.iconst 1, 1) := by decide +kernel
theorem dX4_init_14 : decode cX4_init 14 = .ok (.newarray .int, 2) := by decide +kernel
theorem dX4_init_16 : decode cX4_init 16 = .ok (.putfield 15, 3) := by decide +kernel
theorem dX4_init_19 : decode cX4_init 19 = .ok (.iconst 0, 1) := by decide +kernel
theorem dX4_init_20 : decode cX4_init 20 = .ok (.istore_n 1, 1) := by decide +kernel
theorem dX4_init_21 : decode cX4_init 21 = .ok (.iconst 0, 1) := by decide +kernel
theorem dX4_init_22 : decode cX4_init 22 = .ok (.istore_n 2, 1) := by decide +kernel
theorem dX4_init_23 : decode cX4_init 23 = .ok (.iload_n 2, 1) := by decide +kernel
theorem dX4_init_24 : decode cX4_init 24 = .ok (.ldc 19, 2) := by decide +kernel
theorem dX4_init_26 : decode cX4_init 26 = .ok (.invokevirtual 21, 3) := by decide +kernel
theorem dX4_init_29 : decode cX4_init 29 = .ok (.if_icmp .ge 59, 3) := by decide +kernel
theorem dX4_init_32 : decode cX4_init 32 = .ok (.iload_n 1, 1) := by decide +kernel
theorem dX4_init_33 : decode cX4_init 33 = .ok (.aload_n 0, 1) := by decide +kernel
theorem dX4_init_34 : decode cX4_init 34 = .ok (.getfield 11, 3) := by decide +kernel
theorem dX4_init_37 : decode cX4_init 37 = .ok (.arraylength, 1) := by decide +kernel
theorem dX4_init_38 : decode cX4_init 38 = .ok (.if_icmp .ge 50, 3) := by decide +kernel
theorem dX4_init_41 : decode cX4_init 41 = .ok (.ldc 19, 2) := by decide +kernel
theorem dX4_init_43 : decode cX4_init 43 = .ok (.iload_n 2, 1) := by decide +kernel
theorem dX4_init_44 : decode cX4_init 44 = .ok (.invokevirtual 27, 3) := by decide +kernel
theorem dX4_init_47 : decode cX4_init 47 = .ok (.istore_n 3, 1) := by decide +kernel
theorem dX4_init_48 : decode cX4_init 48 = .ok (.iload_n 3, 1) := by decide +kernel
theorem dX4_init_49 : decode cX4_init 49 = .ok (.bipush 32, 2) := by decide +kernel
theorem dX4_init_51 : decode cX4_init 51 = .ok (.if_icmp .ne 9, 3) := by decide +kernel
theorem dX4_init_54 : decode cX4_init 54 = .ok (.iinc 1 1, 3) := by decide +kernel
theorem dX4_init_57 : decode cX4_init 57 = .ok (.goto 25, 3) := by decide +kernel
theorem dX4_init_60 : decode cX4_init 60 = .ok (.aload_n 0, 1) := by decide +kernel
theorem dX4_init_61 : decode cX4_init 61 = .ok (.getfield 11, 3) := by decide +kernel
theorem dX4_init_64 : decode cX4_init 64 = .ok (.iload_n 1, 1) := by decide +kernel
theorem dX4_init_65 : decode cX4_init 65 = .ok (.aload_n 0, 1) := by decide +kernel
theorem dX4_init_66 : decode cX4_init 66 = .ok (.getfield 11, 3) := by decide +kernel
theorem dX4_init_69 : decode cX4_init 69 = .ok (.iload_n 1, 1) := by decide +kernel
theorem dX4_init_70 : decode cX4_init 70 = .ok (.laload, 1) := by decide +kernel
theorem dX4_init_71 : decode cX4_init 71 = .ok (.ldc2_w 31, 3) := by decide +kernel
theorem dX4_init_74 : decode cX4_init 74 = .ok (.lmul, 1) := by decide +kernel
theorem dX4_init_75 : decode cX4_init 75 = .ok (.iload_n 3, 1) := by decide +kernel
theorem dX4_init_76 : decode cX4_init 76 = .ok (.invokestatic 33, 3) := by decide +kernel
theorem dX4_init_79 : decode cX4_init 79 = .ok (.i2l, 1) := by decide +kernel
theorem dX4_init_80 : decode cX4_init 80 = .ok (.ladd, 1) := by decide +kernel
theorem dX4_init_81 : decode cX4_init 81 = .ok (.lastore, 1) := by decide +kernel
theorem dX4_init_82 : decode cX4_init 82 = .ok (.iinc 2 1, 3) := by decide +kernel
theorem dX4_init_85 : decode cX4_init 85 = .ok (.goto (-62), 3) := by decide +kernel
theorem dX4_init_88 : decode cX4_init 88 = .ok (.return_, 1) := by decide +kernel
theorem dX4_read_0 : decode cX4_read 0 = .ok (.aload_n 0, 1) := by decide +kernel
theorem dX4_read_1 : decode cX4_read 1 = .ok (.aload_n 1, 1) := by decide +kernel
theorem dX4_read_2 : decode cX4_read 2 = .ok (.putfield 37, 3) := by decide +kernel
theorem dX4_read_5 : decode cX4_read 5 = .ok (.aload_n 0, 1) := by decide +kernel
theorem dX4_read_6 : decode cX4_read 6 = .ok (.aload_n 2, 1) := by decide +kernel
theorem dX4_read_7 : decode cX4_read 7 = .ok (.putfield 41, 3) := by decide +kernel
theorem dX4_read_10 : decode cX4_read 10 = .ok (.aload_n 0, 1) := by decide +kernel
theorem dX4_read_11 : decode cX4_read 11 = .ok (.getfield 41, 3) := by decide +kernel
theorem dX4_read_14 : decode cX4_read 14 = .ok (.invokevirtual 45, 3) := by decide +kernel
theorem dX4_read_17 : decode cX4_read 17 = .ok (.aload_n 0, 1) := by decide +kernel
theorem dX4_read_18 : decode cX4_read 18 = .ok (.iconst 0, 1) := by decide +kernel
theorem dX4_read_19 : decode cX4_read 19 = .ok (.putfield 50, 3) := by decide +kernel
theorem dX4_read_22 : decode cX4_read 22 = .ok (.aload_n 0, 1) := by decide +kernel
theorem dX4_read_23 : decode cX4_read 23 = .ok (.iconst 0, 1) := by decide +kernel
theorem dX4_read_24 : decode cX4_read 24 = .ok (.putfield 54, 3) := by decide +kernel
theorem dX4_read_27 : decode cX4_read 27 = .ok (.aload_n 0, 1) := by decide +kernel
theorem dX4_read_28 : decode cX4_read 28 = .ok (.invokevirtual 57, 3) := by decide +kernel
theorem dX4_read_31 : decode cX4_read 31 = .ok (.iconst 0, 1) := by decide +kernel
theorem dX4_read_32 : decode cX4_read 32 = .ok (.istore_n 3, 1) := by decide +kernel
theorem dX4_read_33 : decode cX4_read 33 = .ok (.iload_n 3, 1) := by decide +kernel
theorem dX4_read_34 : decode cX4_read 34 = .ok (.sipush 1000, 3) := by decide +kernel
theorem dX4_read_37 : decode cX4_read 37 = .ok (.if_icmp .ge 169, 3) := by decide +kernel
theorem dX4_read_40 : decode cX4_read 40 = .ok (.aload_n 0, 1) := by decide +kernel
theorem dX4_read_41 : decode cX4_read 41 = .ok (.getfield 54, 3) := by decide +kernel
theorem dX4_read_44 : decode cX4_read 44 = .ok (.ifCond .ne 162, 3) := by decide +kernel
theorem dX4_read_47 : decode cX4_read 47 = .ok (.aload_n 0, 1) := by decide +kernel
theorem dX4_read_48 : decode cX4_read 48 = .ok (.getfield 62, 3) := by decide +kernel
theorem dX4_read_51 : decode cX4_read 51 = .ok (.ifCond .eq 155, 3) := by decide +kernel
theorem dX4_read_54 : decode cX4_read 54 = .ok (.aload_n 0, 1) := by decide +kernel
theorem dX4_read_55 : decode cX4_read 55 = .ok (.getfield 62, 3) := by decide +kernel
theorem dX4_read_58 : decode cX4_read 58 = .ok (.tableswitch 135 5 22 #[86, 93, 135, 100, 107, 135, 135, 135, 135, 135, 114, 135, 121, 135, 135, 135, 128, 128], 86) := by decide +kernel
theorem dX4_read_144 : decode cX4_read 144 = .ok (.aload_n 0, 1) := by decide +kernel
theorem dX4_read_145 : decode cX4_read 145 = .ok (.invokevirtual 65, 3) := by decide +kernel
theorem dX4_read_148 : decode cX4_read 148 = .ok (.goto 52, 3) := by decide +kernel
theorem dX4_read_151 : decode cX4_read 151 = .ok (.aload_n 0, 1) := by decide +kernel
theorem dX4_read_152 : decode cX4_read 152 = .ok (.invokevirtual 68, 3) := by decide +kernel
theorem dX4_read_155 : decode cX4_read 155 = .ok (.goto 45, 3) := by decide +kernel
theorem dX4_read_158 : decode cX4_read 158 = .ok (.aload_n 0, 1) := by decide +kernel
theorem dX4_read_159 : decode cX4_read 159 = .ok (.invokevirtual 71, 3) := by decide +kernel
theorem dX4_read_162 : decode cX4_read 162 = .ok (.goto 38, 3) := by decide +kernel
theorem dX4_read_165 : decode cX4_read 165 = .ok (.aload_n 0, 1) := by decide +kernel
theorem dX4_read_166 : decode cX4_read 166 = .ok (.invokevirtual 74, 3) := by decide +kernel
theorem dX4_read_169 : decode cX4_read 169 = .ok (.goto 31, 3) := by decide +kernel
theorem dX4_read_172 : decode cX4_read 172 = .ok (.aload_n 0, 1) := by decide +kernel
theorem dX4_read_173 : decode cX4_read 173 = .ok (.invokevirtual 77, 3) := by decide +kernel
theorem dX4_read_176 : decode cX4_read 176 = .ok (.goto 24, 3) := by decide +kernel
theorem dX4_read_179 : decode cX4_read 179 = .ok (.aload_n 0, 1) := by decide +kernel
theorem dX4_read_180 : decode cX4_read 180 = .ok (.invokevirtual 80, 3) := by decide +kernel
theorem dX4_read_183 : decode cX4_read 183 = .ok (.goto 17, 3) := by decide +kernel
theorem dX4_read_186 : decode cX4_read 186 = .ok (.aload_n 0, 1) := by decide +kernel
theorem dX4_read_187 : decode cX4_read 187 = .ok (.invokevirtual 83, 3) := by decide +kernel
theorem dX4_read_190 : decode cX4_read 190 = .ok (.goto 10, 3) := by decide +kernel
theorem dX4_read_193 : decode cX4_read 193 = .ok (.aload_n 0, 1) := by decide +kernel
theorem dX4_read_194 : decode cX4_read 194 = .ok (.iconst 0, 1) := by decide +kernel
theorem dX4_read_195 : decode cX4_read 195 = .ok (.iconst 1, 1) := by decide +kernel
theorem dX4_read_196 : decode cX4_read 196 = .ok (.invokevirtual 86, 3) := by decide +kernel
theorem dX4_read_199 : decode cX4_read 199 = .ok (.pop, 1) := by decide +kernel
theorem dX4_read_200 : decode cX4_read 200 = .ok (.iinc 3 1, 3) := by decide +kernel
theorem dX4_read_203 : decode cX4_read 203 = .ok (.goto (-170), 3) := by decide +kernel
theorem dX4_read_206 : decode cX4_read 206 = .ok (.aload_n 0, 1) := by decide +kernel
theorem dX4_read_207 : decode cX4_read 207 = .ok (.getfield 54, 3) := by decide +kernel
theorem dX4_read_210 : decode cX4_read 210 = .ok (.ireturn, 1) := by decide +kernel
theorem dX4_readTown_0 : decode cX4_readTown 0 = .ok (.aload_n 0, 1) := by decide +kernel
theorem dX4_readTown_1 : decode cX4_readTown 1 = .ok (.getfield 41, 3) := by decide +kernel
theorem dX4_readTown_4 : decode cX4_readTown 4 = .ok (.getfield 90, 3) := by decide +kernel
theorem dX4_readTown_7 : decode cX4_readTown 7 = .ok (.istore_n 1, 1) := by decide +kernel
theorem dX4_readTown_8 : decode cX4_readTown 8 = .ok (.aload_n 0, 1) := by decide +kernel
theorem dX4_readTown_9 : decode cX4_readTown 9 = .ok (.iload_n 1, 1) := by decide +kernel
theorem dX4_readTown_10 : decode cX4_readTown 10 = .ok (.iconst 3, 1) := by decide +kernel
theorem dX4_readTown_11 : decode cX4_readTown 11 = .ok (.if_icmp .ge 7, 3) := by decide +kernel
theorem dX4_readTown_14 : decode cX4_readTown 14 = .ok (.iconst 1, 1) := by decide +kernel
theorem dX4_readTown_15 : decode cX4_readTown 15 = .ok (.goto 4, 3) := by decide +kernel
theorem dX4_readTown_18 : decode cX4_readTown 18 = .ok (.iconst 0, 1) := by decide +kernel
theorem dX4_readTown_19 : decode cX4_readTown 19 = .ok (.invokevirtual 93, 3) := by decide +kernel
theorem dX4_readTown_22 : decode cX4_readTown 22 = .ok (.ifCond .eq 31, 3) := by decide +kernel
theorem dX4_readTown_25 : decode cX4_readTown 25 = .ok (.aload_n 0, 1) := by decide +kernel
theorem dX4_readTown_26 : decode cX4_readTown 26 = .ok (.iconst 5, 1) := by decide +kernel
theorem dX4_readTown_27 : decode cX4_readTown 27 = .ok (.iload_n 1, 1) := by decide +kernel
theorem dX4_readTown_28 : decode cX4_readTown 28 = .ok (.invokevirtual 97, 3) := by decide +kernel
theorem dX4_readTown_31 : decode cX4_readTown 31 = .ok (.ifCond .eq 22, 3) := by decide +kernel
theorem dX4_readTown_34 : decode cX4_readTown 34 = .ok (.aload_n 0, 1) := by decide +kernel
theorem dX4_readTown_35 : decode cX4_readTown 35 = .ok (.getfield 41, 3) := by decide +kernel
theorem dX4_readTown_38 : decode cX4_readTown 38 = .ok (.dup, 1) := by decide +kernel
theorem dX4_readTown_39 : decode cX4_readTown 39 = .ok (.getfield 90, 3) := by decide +kernel
theorem dX4_readTown_42 : decode cX4_readTown 42 = .ok (.iconst 1, 1) := by decide +kernel
theorem dX4_readTown_43 : decode cX4_readTown 43 = .ok (.iadd, 1) := by decide +kernel
theorem dX4_readTown_44 : decode cX4_readTown 44 = .ok (.putfield 90, 3) := by decide +kernel
theorem dX4_readTown_47 : decode cX4_readTown 47 = .ok (.aload_n 0, 1) := by decide +kernel
theorem dX4_readTown_48 : decode cX4_readTown 48 = .ok (.iconst 2, 1) := by decide +kernel
theorem dX4_readTown_49 : decode cX4_readTown 49 = .ok (.invokevirtual 101, 3) := by decide +kernel
theorem dX4_readTown_52 : decode cX4_readTown 52 = .ok (.pop, 1) := by decide +kernel
theorem dX4_readTown_53 : decode cX4_readTown 53 = .ok (.return_, 1) := by decide +kernel
theorem dX4_readBack_0 : decode cX4_readBack 0 = .ok (.aload_n 0, 1) := by decide +kernel
theorem dX4_readBack_1 : decode cX4_readBack 1 = .ok (.aload_n 0, 1) := by decide +kernel
theorem dX4_readBack_2 : decode cX4_readBack 2 = .ok (.getfield 41, 3) := by decide +kernel
theorem dX4_readBack_5 : decode cX4_readBack 5 = .ok (.getfield 90, 3) := by decide +kernel
theorem dX4_readBack_8 : decode cX4_readBack 8 = .ok (.ifCond .le 7, 3) := by decide +kernel
theorem dX4_readBack_11 : decode cX4_readBack 11 = .ok (.iconst 1, 1) := by decide +kernel
theorem dX4_readBack_12 : decode cX4_readBack 12 = .ok (.goto 4, 3) := by decide +kernel
theorem dX4_readBack_15 : decode cX4_readBack 15 = .ok (.iconst 0, 1) := by decide +kernel
theorem dX4_readBack_16 : decode cX4_readBack 16 = .ok (.iconst 1, 1) := by decide +kernel
theorem dX4_readBack_17 : decode cX4_readBack 17 = .ok (.invokevirtual 86, 3) := by decide +kernel
theorem dX4_readBack_20 : decode cX4_readBack 20 = .ok (.ifCond .ne 4, 3) := by decide +kernel
theorem dX4_readBack_23 : decode cX4_readBack 23 = .ok (.return_, 1) := by decide +kernel
theorem dX4_readBack_24 : decode cX4_readBack 24 = .ok (.aload_n 0, 1) := by decide +kernel
theorem dX4_readBack_25 : decode cX4_readBack 25 = .ok (.getfield 41, 3) := by decide +kernel
theorem dX4_readBack_28 : decode cX4_readBack 28 = .ok (.getfield 105, 3) := by decide +kernel
theorem dX4_readBack_31 : decode cX4_readBack 31 = .ok (.aload_n 0, 1) := by decide +kernel
theorem dX4_readBack_32 : decode cX4_readBack 32 = .ok (.getfield 41, 3) := by decide +kernel
theorem dX4_readBack_35 : decode cX4_readBack 35 = .ok (.getfield 90, 3) := by decide +kernel
theorem dX4_readBack_38 : decode cX4_readBack 38 = .ok (.iconst 1, 1) := by decide +kernel
theorem dX4_readBack_39 : decode cX4_readBack 39 = .ok (.isub, 1) := by decide +kernel
theorem dX4_readBack_40 : decode cX4_readBack 40 = .ok (.aaload, 1) := by decide +kernel
theorem dX4_readBack_41 : decode cX4_readBack 41 = .ok (.astore_n 1, 1) := by decide +kernel
theorem dX4_readBack_42 : decode cX4_readBack 42 = .ok (.aload_n 0, 1) := by decide +kernel
theorem dX4_readBack_43 : decode cX4_readBack 43 = .ok (.aload_n 1, 1) := by decide +kernel
theorem dX4_readBack_44 : decode cX4_readBack 44 = .ok (.getfield 109, 3) := by decide +kernel
theorem dX4_readBack_47 : decode cX4_readBack 47 = .ok (.bipush 12, 2) := by decide +kernel
theorem dX4_readBack_49 : decode cX4_readBack 49 = .ok (.if_icmp .ge 7, 3) := by decide +kernel
theorem dX4_readBack_52 : decode cX4_readBack 52 = .ok (.iconst 1, 1) := by decide +kernel
theorem dX4_readBack_53 : decode cX4_readBack 53 = .ok (.goto 4, 3) := by decide +kernel
theorem dX4_readBack_56 : decode cX4_readBack 56 = .ok (.iconst 0, 1) := by decide +kernel
theorem dX4_readBack_57 : decode cX4_readBack 57 = .ok (.invokevirtual 93, 3) := by decide +kernel
theorem dX4_readBack_60 : decode cX4_readBack 60 = .ok (.ifCond .ne 4, 3) := by decide +kernel
theorem dX4_readBack_63 : decode cX4_readBack 63 = .ok (.return_, 1) := by decide +kernel
theorem dX4_readBack_64 : decode cX4_readBack 64 = .ok (.aload_n 0, 1) := by decide +kernel
theorem dX4_readBack_65 : decode cX4_readBack 65 = .ok (.getfield 114, 3) := by decide +kernel
theorem dX4_readBack_68 : decode cX4_readBack 68 = .ok (.istore_n 2, 1) := by decide +kernel
theorem dX4_readBack_69 : decode cX4_readBack 69 = .ok (.aload_n 0, 1) := by decide +kernel
theorem dX4_readBack_70 : decode cX4_readBack 70 = .ok (.iconst 0, 1) := by decide +kernel
theorem dX4_readBack_71 : decode cX4_readBack 71 = .ok (.sipush 3649, 3) := by decide +kernel
theorem dX4_readBack_74 : decode cX4_readBack 74 = .ok (.invokevirtual 117, 3) := by decide +kernel
theorem dX4_readBack_77 : decode cX4_readBack 77 = .ok (.ifCond .eq 25, 3) := by decide +kernel
theorem dX4_readBack_80 : decode cX4_readBack 80 = .ok (.aload_n 0, 1) := by decide +kernel
theorem dX4_readBack_81 : decode cX4_readBack 81 = .ok (.aload_n 1, 1) := by decide +kernel
theorem dX4_readBack_82 : decode cX4_readBack 82 = .ok (.iload_n 2, 1) := by decide +kernel
theorem dX4_readBack_83 : decode cX4_readBack 83 = .ok (.invokevirtual 120, 3) := by decide +kernel
theorem dX4_readBack_86 : decode cX4_readBack 86 = .ok (.iconst (-1), 1) := by decide +kernel
theorem dX4_readBack_87 : decode cX4_readBack 87 = .ok (.if_icmp .ne 7, 3) := by decide +kernel
theorem dX4_readBack_90 : decode cX4_readBack 90 = .ok (.iconst 1, 1) := by decide +kernel
theorem dX4_readBack_91 : decode cX4_readBack 91 = .ok (.goto 4, 3) := by decide +kernel
theorem dX4_readBack_94 : decode cX4_readBack 94 = .ok (.iconst 0, 1) := by decide +kernel
theorem dX4_readBack_95 : decode cX4_readBack 95 = .ok (.iconst 3, 1) := by decide +kernel
theorem dX4_readBack_96 : decode cX4_readBack 96 = .ok (.invokevirtual 86, 3) := by decide +kernel
theorem dX4_readBack_99 : decode cX4_readBack 99 = .ok (.ifCond .ne 4, 3) := by decide +kernel
theorem dX4_readBack_102 : decode cX4_readBack 102 = .ok (.return_, 1) := by decide +kernel
theorem dX4_readBack_103 : decode cX4_readBack 103 = .ok (.aload_n 0, 1) := by decide +kernel
theorem dX4_readBack_104 : decode cX4_readBack 104 = .ok (.invokevirtual 57, 3) := by decide +kernel
theorem dX4_readBack_107 : decode cX4_readBack 107 = .ok (.aload_n 0, 1) := by decide +kernel
theorem dX4_readBack_108 : decode cX4_readBack 108 = .ok (.bipush 7, 2) := by decide +kernel
theorem dX4_readBack_110 : decode cX4_readBack 110 = .ok (.invokevirtual 101, 3) := by decide +kernel
theorem dX4_readBack_113 : decode cX4_readBack 113 = .ok (.ifCond .eq 43, 3) := by decide +kernel
theorem dX4_readBack_116 : decode cX4_readBack 116 = .ok (.aload_n 0, 1) := by decide +kernel
theorem dX4_readBack_117 : decode cX4_readBack 117 = .ok (.iconst 1, 1) := by decide +kernel
theorem dX4_readBack_118 : decode cX4_readBack 118 = .ok (.bipush 24, 2) := by decide +kernel
theorem dX4_readBack_120 : decode cX4_readBack 120 = .ok (.aload_n 0, 1) := by decide +kernel
theorem dX4_readBack_121 : decode cX4_readBack 121 = .ok (.getfield 15, 3) := by decide +kernel
theorem dX4_readBack_124 : decode cX4_readBack 124 = .ok (.iconst 0, 1) := by decide +kernel
theorem dX4_readBack_125 : decode cX4_readBack 125 = .ok (.invokevirtual 123, 3) := by decide +kernel
theorem dX4_readBack_128 : decode cX4_readBack 128 = .ok (.ifCond .eq 28, 3) := by decide +kernel
theorem dX4_readBack_131 : decode cX4_readBack 131 = .ok (.aload_n 1, 1) := by decide +kernel
theorem dX4_readBack_132 : decode cX4_readBack 132 = .ok (.iload_n 2, 1) := by decide +kernel
theorem dX4_readBack_133 : decode cX4_readBack 133 = .ok (.sipush 1440, 3) := by decide +kernel
theorem dX4_readBack_136 : decode cX4_readBack 136 = .ok (.imul, 1) := by decide +kernel
theorem dX4_readBack_137 : decode cX4_readBack 137 = .ok (.aload_n 0, 1) := by decide +kernel
theorem dX4_readBack_138 : decode cX4_readBack 138 = .ok (.getfield 15, 3) := by decide +kernel
theorem dX4_readBack_141 : decode cX4_readBack 141 = .ok (.iconst 0, 1) := by decide +kernel
theorem dX4_readBack_142 : decode cX4_readBack 142 = .ok (.iaload, 1) := by decide +kernel
theorem dX4_readBack_143 : decode cX4_readBack 143 = .ok (.bipush 60, 2) := by decide +kernel
theorem dX4_readBack_145 : decode cX4_readBack 145 = .ok (.imul, 1) := by decide +kernel
theorem dX4_readBack_146 : decode cX4_readBack 146 = .ok (.iadd, 1) := by decide +kernel
theorem dX4_readBack_147 : decode cX4_readBack 147 = .ok (.invokevirtual 127, 3) := by decide +kernel
theorem dX4_readBack_150 : decode cX4_readBack 150 = .ok (.aload_n 0, 1) := by decide +kernel
theorem dX4_readBack_151 : decode cX4_readBack 151 = .ok (.iconst 2, 1) := by decide +kernel
theorem dX4_readBack_152 : decode cX4_readBack 152 = .ok (.invokevirtual 101, 3) := by decide +kernel
theorem dX4_readBack_155 : decode cX4_readBack 155 = .ok (.pop, 1) := by decide +kernel
theorem dX4_readBack_156 : decode cX4_readBack 156 = .ok (.return_, 1) := by decide +kernel
theorem dX4_readWay_0 : decode cX4_readWay 0 = .ok (.aload_n 0, 1) := by decide +kernel
theorem dX4_readWay_1 : decode cX4_readWay 1 = .ok (.invokevirtual 57, 3) := by decide +kernel
theorem dX4_readWay_4 : decode cX4_readWay 4 = .ok (.aload_n 0, 1) := by decide +kernel
theorem dX4_readWay_5 : decode cX4_readWay 5 = .ok (.iconst 5, 1) := by decide +kernel
theorem dX4_readWay_6 : decode cX4_readWay 6 = .ok (.invokevirtual 131, 3) := by decide +kernel
theorem dX4_readWay_9 : decode cX4_readWay 9 = .ok (.istore_n 1, 1) := by decide +kernel
theorem dX4_readWay_10 : decode cX4_readWay 10 = .ok (.iload_n 1, 1) := by decide +kernel
theorem dX4_readWay_11 : decode cX4_readWay 11 = .ok (.iconst (-1), 1) := by decide +kernel
theorem dX4_readWay_12 : decode cX4_readWay 12 = .ok (.if_icmp .ne 4, 3) := by decide +kernel
theorem dX4_readWay_15 : decode cX4_readWay 15 = .ok (.return_, 1) := by decide +kernel
theorem dX4_readWay_16 : decode cX4_readWay 16 = .ok (.aload_n 0, 1) := by decide +kernel
theorem dX4_readWay_17 : decode cX4_readWay 17 = .ok (.invokevirtual 57, 3) := by decide +kernel
theorem dX4_readWay_20 : decode cX4_readWay 20 = .ok (.aload_n 0, 1) := by decide +kernel
theorem dX4_readWay_21 : decode cX4_readWay 21 = .ok (.iconst 5, 1) := by decide +kernel
theorem dX4_readWay_22 : decode cX4_readWay 22 = .ok (.invokevirtual 131, 3) := by decide +kernel
theorem dX4_readWay_25 : decode cX4_readWay 25 = .ok (.istore_n 2, 1) := by decide +kernel
theorem dX4_readWay_26 : decode cX4_readWay 26 = .ok (.iload_n 2, 1) := by decide +kernel
theorem dX4_readWay_27 : decode cX4_readWay 27 = .ok (.iconst (-1), 1) := by decide +kernel
theorem dX4_readWay_28 : decode cX4_readWay 28 = .ok (.if_icmp .eq 33, 3) := by decide +kernel
theorem dX4_readWay_31 : decode cX4_readWay 31 = .ok (.aload_n 0, 1) := by decide +kernel
theorem dX4_readWay_32 : decode cX4_readWay 32 = .ok (.iload_n 1, 1) := by decide +kernel
theorem dX4_readWay_33 : decode cX4_readWay 33 = .ok (.iload_n 2, 1) := by decide +kernel
theorem dX4_readWay_34 : decode cX4_readWay 34 = .ok (.if_icmp .eq 19, 3) := by decide +kernel
theorem dX4_readWay_37 : decode cX4_readWay 37 = .ok (.aload_n 0, 1) := by decide +kernel
theorem dX4_readWay_38 : decode cX4_readWay 38 = .ok (.getfield 41, 3) := by decide +kernel
theorem dX4_readWay_41 : decode cX4_readWay 41 = .ok (.iload_n 1, 1) := by decide +kernel
theorem dX4_readWay_42 : decode cX4_readWay 42 = .ok (.iload_n 2, 1) := by decide +kernel
theorem dX4_readWay_43 : decode cX4_readWay 43 = .ok (.invokevirtual 134, 3) := by decide +kernel
theorem dX4_readWay_46 : decode cX4_readWay 46 = .ok (.ifCond .ne 7, 3) := by decide +kernel
theorem dX4_readWay_49 : decode cX4_readWay 49 = .ok (.iconst 1, 1) := by decide +kernel
theorem dX4_readWay_50 : decode cX4_readWay 50 = .ok (.goto 4, 3) := by decide +kernel
theorem dX4_readWay_53 : decode cX4_readWay 53 = .ok (.iconst 0, 1) := by decide +kernel
theorem dX4_readWay_54 : decode cX4_readWay 54 = .ok (.iconst 3, 1) := by decide +kernel
theorem dX4_readWay_55 : decode cX4_readWay 55 = .ok (.invokevirtual 86, 3) := by decide +kernel
theorem dX4_readWay_58 : decode cX4_readWay 58 = .ok (.ifCond .ne 4, 3) := by decide +kernel
theorem dX4_readWay_61 : decode cX4_readWay 61 = .ok (.return_, 1) := by decide +kernel
theorem dX4_readWay_62 : decode cX4_readWay 62 = .ok (.aload_n 0, 1) := by decide +kernel
theorem dX4_readWay_63 : decode cX4_readWay 63 = .ok (.invokevirtual 57, 3) := by decide +kernel
theorem dX4_readWay_66 : decode cX4_readWay 66 = .ok (.aload_n 0, 1) := by decide +kernel
theorem dX4_readWay_67 : decode cX4_readWay 67 = .ok (.iconst 1, 1) := by decide +kernel
theorem dX4_readWay_68 : decode cX4_readWay 68 = .ok (.sipush 9999, 3) := by decide +kernel
theorem dX4_readWay_71 : decode cX4_readWay 71 = .ok (.aload_n 0, 1) := by decide +kernel
theorem dX4_readWay_72 : decode cX4_readWay 72 = .ok (.getfield 15, 3) := by decide +kernel
theorem dX4_readWay_75 : decode cX4_readWay 75 = .ok (.iconst 0, 1) := by decide +kernel
theorem dX4_readWay_76 : decode cX4_readWay 76 = .ok (.invokevirtual 123, 3) := by decide +kernel
theorem dX4_readWay_79 : decode cX4_readWay 79 = .ok (.ifCond .eq 24, 3) := by decide +kernel
theorem dX4_readWay_82 : decode cX4_readWay 82 = .ok (.aload_n 0, 1) := by decide +kernel
theorem dX4_readWay_83 : decode cX4_readWay 83 = .ok (.getfield 41, 3) := by decide +kernel
theorem dX4_readWay_86 : decode cX4_readWay 86 = .ok (.iload_n 1, 1) := by decide +kernel
theorem dX4_readWay_87 : decode cX4_readWay 87 = .ok (.iload_n 2, 1) := by decide +kernel
theorem dX4_readWay_88 : decode cX4_readWay 88 = .ok (.aload_n 0, 1) := by decide +kernel
theorem dX4_readWay_89 : decode cX4_readWay 89 = .ok (.getfield 15, 3) := by decide +kernel
theorem dX4_readWay_92 : decode cX4_readWay 92 = .ok (.iconst 0, 1) := by decide +kernel
theorem dX4_readWay_93 : decode cX4_readWay 93 = .ok (.iaload, 1) := by decide +kernel
theorem dX4_readWay_94 : decode cX4_readWay 94 = .ok (.invokevirtual 137, 3) := by decide +kernel
theorem dX4_readWay_97 : decode cX4_readWay 97 = .ok (.aload_n 0, 1) := by decide +kernel
theorem dX4_readWay_98 : decode cX4_readWay 98 = .ok (.iconst 2, 1) := by decide +kernel
theorem dX4_readWay_99 : decode cX4_readWay 99 = .ok (.invokevirtual 101, 3) := by decide +kernel
theorem dX4_readWay_102 : decode cX4_readWay 102 = .ok (.pop, 1) := by decide +kernel
theorem dX4_readWay_103 : decode cX4_readWay 103 = .ok (.return_, 1) := by decide +kernel
theorem dX4_readWork_0 : decode cX4_readWork 0 = .ok (.aload_n 0, 1) := by decide +kernel
theorem dX4_readWork_1 : decode cX4_readWork 1 = .ok (.getfield 41, 3) := by decide +kernel
theorem dX4_readWork_4 : decode cX4_readWork 4 = .ok (.getfield 141, 3) := by decide +kernel
theorem dX4_readWork_7 : decode cX4_readWork 7 = .ok (.istore_n 1, 1) := by decide +kernel
theorem dX4_readWork_8 : decode cX4_readWork 8 = .ok (.aload_n 0, 1) := by decide +kernel
theorem dX4_readWork_9 : decode cX4_readWork 9 = .ok (.iload_n 1, 1) := by decide +kernel
theorem dX4_readWork_10 : decode cX4_readWork 10 = .ok (.bipush 8, 2) := by decide +kernel
theorem dX4_readWork_12 : decode cX4_readWork 12 = .ok (.if_icmp .ge 7, 3) := by decide +kernel
theorem dX4_readWork_15 : decode cX4_readWork 15 = .ok (.iconst 1, 1) := by decide +kernel
theorem dX4_readWork_16 : decode cX4_readWork 16 = .ok (.goto 4, 3) := by decide +kernel
theorem dX4_readWork_19 : decode cX4_readWork 19 = .ok (.iconst 0, 1) := by decide +kernel
theorem dX4_readWork_20 : decode cX4_readWork 20 = .ok (.invokevirtual 93, 3) := by decide +kernel
theorem dX4_readWork_23 : decode cX4_readWork 23 = .ok (.ifCond .eq 13, 3) := by decide +kernel
theorem dX4_readWork_26 : decode cX4_readWork 26 = .ok (.aload_n 0, 1) := by decide +kernel
theorem dX4_readWork_27 : decode cX4_readWork 27 = .ok (.bipush 9, 2) := by decide +kernel
theorem dX4_readWork_29 : decode cX4_readWork 29 = .ok (.iload_n 1, 1) := by decide +kernel
theorem dX4_readWork_30 : decode cX4_readWork 30 = .ok (.invokevirtual 97, 3) := by decide +kernel
theorem dX4_readWork_33 : decode cX4_readWork 33 = .ok (.ifCond .ne 4, 3) := by decide +kernel
theorem dX4_readWork_36 : decode cX4_readWork 36 = .ok (.return_, 1) := by decide +kernel
theorem dX4_readWork_37 : decode cX4_readWork 37 = .ok (.aload_n 0, 1) := by decide +kernel
theorem dX4_readWork_38 : decode cX4_readWork 38 = .ok (.getfield 41, 3) := by decide +kernel
theorem dX4_readWork_41 : decode cX4_readWork 41 = .ok (.getfield 144, 3) := by decide +kernel
theorem dX4_readWork_44 : decode cX4_readWork 44 = .ok (.astore_n 2, 1) := by decide +kernel
theorem dX4_readWork_45 : decode cX4_readWork 45 = .ok (.iload_n 1, 1) := by decide +kernel
theorem dX4_readWork_46 : decode cX4_readWork 46 = .ok (.iconst 5, 1) := by decide +kernel
theorem dX4_readWork_47 : decode cX4_readWork 47 = .ok (.imul, 1) := by decide +kernel
theorem dX4_readWork_48 : decode cX4_readWork 48 = .ok (.istore_n 3, 1) := by decide +kernel
theorem dX4_readWork_49 : decode cX4_readWork 49 = .ok (.aload_n 0, 1) := by decide +kernel
theorem dX4_readWork_50 : decode cX4_readWork 50 = .ok (.bipush 10, 2) := by decide +kernel
theorem dX4_readWork_52 : decode cX4_readWork 52 = .ok (.invokevirtual 101, 3) := by decide +kernel
theorem dX4_readWork_55 : decode cX4_readWork 55 = .ok (.ifCond .eq 137, 3) := by decide +kernel
theorem dX4_readWork_58 : decode cX4_readWork 58 = .ok (.aload_n 0, 1) := by decide +kernel
theorem dX4_readWork_59 : decode cX4_readWork 59 = .ok (.iconst 0, 1) := by decide +kernel
theorem dX4_readWork_60 : decode cX4_readWork 60 = .ok (.sipush 3649, 3) := by decide +kernel
theorem dX4_readWork_63 : decode cX4_readWork 63 = .ok (.aload_n 2, 1) := by decide +kernel
theorem dX4_readWork_64 : decode cX4_readWork 64 = .ok (.iload_n 3, 1) := by decide +kernel
theorem dX4_readWork_65 : decode cX4_readWork 65 = .ok (.invokevirtual 123, 3) := by decide +kernel
theorem dX4_readWork_68 : decode cX4_readWork 68 = .ok (.ifCond .eq 124, 3) := by decide +kernel
theorem dX4_readWork_71 : decode cX4_readWork 71 = .ok (.aload_n 0, 1) := by decide +kernel
theorem dX4_readWork_72 : decode cX4_readWork 72 = .ok (.bipush 11, 2) := by decide +kernel
theorem dX4_readWork_74 : decode cX4_readWork 74 = .ok (.invokevirtual 101, 3) := by decide +kernel
theorem dX4_readWork_77 : decode cX4_readWork 77 = .ok (.ifCond .eq 115, 3) := by decide +kernel
theorem dX4_readWork_80 : decode cX4_readWork 80 = .ok (.aload_n 0, 1) := by decide +kernel
theorem dX4_readWork_81 : decode cX4_readWork 81 = .ok (.iconst 0, 1) := by decide +kernel
theorem dX4_readWork_82 : decode cX4_readWork 82 = .ok (.sipush 1440, 3) := by decide +kernel
theorem dX4_readWork_85 : decode cX4_readWork 85 = .ok (.aload_n 2, 1) := by decide +kernel
theorem dX4_readWork_86 : decode cX4_readWork 86 = .ok (.iload_n 3, 1) := by decide +kernel
theorem dX4_readWork_87 : decode cX4_readWork 87 = .ok (.iconst 1, 1) := by decide +kernel
theorem dX4_readWork_88 : decode cX4_readWork 88 = .ok (.iadd, 1) := by decide +kernel
theorem dX4_readWork_89 : decode cX4_readWork 89 = .ok (.invokevirtual 123, 3) := by decide +kernel
theorem dX4_readWork_92 : decode cX4_readWork 92 = .ok (.ifCond .eq 100, 3) := by decide +kernel
theorem dX4_readWork_95 : decode cX4_readWork 95 = .ok (.aload_n 0, 1) := by decide +kernel
theorem dX4_readWork_96 : decode cX4_readWork 96 = .ok (.bipush 12, 2) := by decide +kernel
theorem dX4_readWork_98 : decode cX4_readWork 98 = .ok (.invokevirtual 101, 3) := by decide +kernel
theorem dX4_readWork_101 : decode cX4_readWork 101 = .ok (.ifCond .eq 91, 3) := by decide +kernel
theorem dX4_readWork_104 : decode cX4_readWork 104 = .ok (.aload_n 0, 1) := by decide +kernel
theorem dX4_readWork_105 : decode cX4_readWork 105 = .ok (.aload_n 2, 1) := by decide +kernel
theorem dX4_readWork_106 : decode cX4_readWork 106 = .ok (.iload_n 3, 1) := by decide +kernel
theorem dX4_readWork_107 : decode cX4_readWork 107 = .ok (.iconst 1, 1) := by decide +kernel
theorem dX4_readWork_108 : decode cX4_readWork 108 = .ok (.iadd, 1) := by decide +kernel
theorem dX4_readWork_109 : decode cX4_readWork 109 = .ok (.iaload, 1) := by decide +kernel
theorem dX4_readWork_110 : decode cX4_readWork 110 = .ok (.iconst 1, 1) := by decide +kernel
theorem dX4_readWork_111 : decode cX4_readWork 111 = .ok (.iadd, 1) := by decide +kernel
theorem dX4_readWork_112 : decode cX4_readWork 112 = .ok (.sipush 1440, 3) := by decide +kernel
theorem dX4_readWork_115 : decode cX4_readWork 115 = .ok (.aload_n 2, 1) := by decide +kernel
theorem dX4_readWork_116 : decode cX4_readWork 116 = .ok (.iload_n 3, 1) := by decide +kernel
theorem dX4_readWork_117 : decode cX4_readWork 117 = .ok (.iconst 2, 1) := by decide +kernel
theorem dX4_readWork_118 : decode cX4_readWork 118 = .ok (.iadd, 1) := by decide +kernel
theorem dX4_readWork_119 : decode cX4_readWork 119 = .ok (.invokevirtual 123, 3) := by decide +kernel
theorem dX4_readWork_122 : decode cX4_readWork 122 = .ok (.ifCond .eq 70, 3) := by decide +kernel
theorem dX4_readWork_125 : decode cX4_readWork 125 = .ok (.aload_n 0, 1) := by decide +kernel
theorem dX4_readWork_126 : decode cX4_readWork 126 = .ok (.bipush 13, 2) := by decide +kernel
theorem dX4_readWork_128 : decode cX4_readWork 128 = .ok (.invokevirtual 101, 3) := by decide +kernel
theorem dX4_readWork_131 : decode cX4_readWork 131 = .ok (.ifCond .eq 61, 3) := by decide +kernel
theorem dX4_readWork_134 : decode cX4_readWork 134 = .ok (.aload_n 0, 1) := by decide +kernel
theorem dX4_readWork_135 : decode cX4_readWork 135 = .ok (.iconst 1, 1) := by decide +kernel
theorem dX4_readWork_136 : decode cX4_readWork 136 = .ok (.sipush 1440, 3) := by decide +kernel
theorem dX4_readWork_139 : decode cX4_readWork 139 = .ok (.aload_n 2, 1) := by decide +kernel
theorem dX4_readWork_140 : decode cX4_readWork 140 = .ok (.iload_n 3, 1) := by decide +kernel
theorem dX4_readWork_141 : decode cX4_readWork 141 = .ok (.iconst 3, 1) := by decide +kernel
theorem dX4_readWork_142 : decode cX4_readWork 142 = .ok (.iadd, 1) := by decide +kernel
theorem dX4_readWork_143 : decode cX4_readWork 143 = .ok (.invokevirtual 123, 3) := by decide +kernel
theorem dX4_readWork_146 : decode cX4_readWork 146 = .ok (.ifCond .eq 46, 3) := by decide +kernel
theorem dX4_readWork_149 : decode cX4_readWork 149 = .ok (.aload_n 0, 1) := by decide +kernel
theorem dX4_readWork_150 : decode cX4_readWork 150 = .ok (.bipush 14, 2) := by decide +kernel
theorem dX4_readWork_152 : decode cX4_readWork 152 = .ok (.invokevirtual 101, 3) := by decide +kernel
theorem dX4_readWork_155 : decode cX4_readWork 155 = .ok (.ifCond .eq 37, 3) := by decide +kernel
theorem dX4_readWork_158 : decode cX4_readWork 158 = .ok (.aload_n 0, 1) := by decide +kernel
theorem dX4_readWork_159 : decode cX4_readWork 159 = .ok (.iconst 0, 1) := by decide +kernel
theorem dX4_readWork_160 : decode cX4_readWork 160 = .ok (.sipush 999, 3) := by decide +kernel
theorem dX4_readWork_163 : decode cX4_readWork 163 = .ok (.aload_n 2, 1) := by decide +kernel
theorem dX4_readWork_164 : decode cX4_readWork 164 = .ok (.iload_n 3, 1) := by decide +kernel
theorem dX4_readWork_165 : decode cX4_readWork 165 = .ok (.iconst 4, 1) := by decide +kernel
theorem dX4_readWork_166 : decode cX4_readWork 166 = .ok (.iadd, 1) := by decide +kernel
theorem dX4_readWork_167 : decode cX4_readWork 167 = .ok (.invokevirtual 123, 3) := by decide +kernel
theorem dX4_readWork_170 : decode cX4_readWork 170 = .ok (.ifCond .eq 22, 3) := by decide +kernel
theorem dX4_readWork_173 : decode cX4_readWork 173 = .ok (.aload_n 0, 1) := by decide +kernel
theorem dX4_readWork_174 : decode cX4_readWork 174 = .ok (.getfield 41, 3) := by decide +kernel
theorem dX4_readWork_177 : decode cX4_readWork 177 = .ok (.dup, 1) := by decide +kernel
theorem dX4_readWork_178 : decode cX4_readWork 178 = .ok (.getfield 141, 3) := by decide +kernel
theorem dX4_readWork_181 : decode cX4_readWork 181 = .ok (.iconst 1, 1) := by decide +kernel
theorem dX4_readWork_182 : decode cX4_readWork 182 = .ok (.iadd, 1) := by decide +kernel
theorem dX4_readWork_183 : decode cX4_readWork 183 = .ok (.putfield 141, 3) := by decide +kernel
theorem dX4_readWork_186 : decode cX4_readWork 186 = .ok (.aload_n 0, 1) := by decide +kernel
theorem dX4_readWork_187 : decode cX4_readWork 187 = .ok (.iconst 2, 1) := by decide +kernel
theorem dX4_readWork_188 : decode cX4_readWork 188 = .ok (.invokevirtual 101, 3) := by decide +kernel
theorem dX4_readWork_191 : decode cX4_readWork 191 = .ok (.pop, 1) := by decide +kernel
theorem dX4_readWork_192 : decode cX4_readWork 192 = .ok (.return_, 1) := by decide +kernel
theorem dX4_readPerson_0 : decode cX4_readPerson 0 = .ok (.aload_n 0, 1) := by decide +kernel
theorem dX4_readPerson_1 : decode cX4_readPerson 1 = .ok (.getfield 41, 3) := by decide +kernel
theorem dX4_readPerson_4 : decode cX4_readPerson 4 = .ok (.getfield 147, 3) := by decide +kernel
theorem dX4_readPerson_7 : decode cX4_readPerson 7 = .ok (.istore_n 1, 1) := by decide +kernel
theorem dX4_readPerson_8 : decode cX4_readPerson 8 = .ok (.aload_n 0, 1) := by decide +kernel
theorem dX4_readPerson_9 : decode cX4_readPerson 9 = .ok (.iload_n 1, 1) := by decide +kernel
theorem dX4_readPerson_10 : decode cX4_readPerson 10 = .ok (.bipush 9, 2) := by decide +kernel
theorem dX4_readPerson_12 : decode cX4_readPerson 12 = .ok (.if_icmp .ge 7, 3) := by decide +kernel
theorem dX4_readPerson_15 : decode cX4_readPerson 15 = .ok (.iconst 1, 1) := by decide +kernel
theorem dX4_readPerson_16 : decode cX4_readPerson 16 = .ok (.goto 4, 3) := by decide +kernel
theorem dX4_readPerson_19 : decode cX4_readPerson 19 = .ok (.iconst 0, 1) := by decide +kernel
theorem dX4_readPerson_20 : decode cX4_readPerson 20 = .ok (.invokevirtual 93, 3) := by decide +kernel
theorem dX4_readPerson_23 : decode cX4_readPerson 23 = .ok (.ifCond .eq 13, 3) := by decide +kernel
theorem dX4_readPerson_26 : decode cX4_readPerson 26 = .ok (.aload_n 0, 1) := by decide +kernel
theorem dX4_readPerson_27 : decode cX4_readPerson 27 = .ok (.bipush 15, 2) := by decide +kernel
theorem dX4_readPerson_29 : decode cX4_readPerson 29 = .ok (.iload_n 1, 1) := by decide +kernel
theorem dX4_readPerson_30 : decode cX4_readPerson 30 = .ok (.invokevirtual 97, 3) := by decide +kernel
theorem dX4_readPerson_33 : decode cX4_readPerson 33 = .ok (.ifCond .ne 4, 3) := by decide +kernel
theorem dX4_readPerson_36 : decode cX4_readPerson 36 = .ok (.return_, 1) := by decide +kernel
theorem dX4_readPerson_37 : decode cX4_readPerson 37 = .ok (.aload_n 0, 1) := by decide +kernel
theorem dX4_readPerson_38 : decode cX4_readPerson 38 = .ok (.getfield 41, 3) := by decide +kernel
theorem dX4_readPerson_41 : decode cX4_readPerson 41 = .ok (.dup, 1) := by decide +kernel
theorem dX4_readPerson_42 : decode cX4_readPerson 42 = .ok (.getfield 147, 3) := by decide +kernel
theorem dX4_readPerson_45 : decode cX4_readPerson 45 = .ok (.iconst 1, 1) := by decide +kernel
theorem dX4_readPerson_46 : decode cX4_readPerson 46 = .ok (.iadd, 1) := by decide +kernel
theorem dX4_readPerson_47 : decode cX4_readPerson 47 = .ok (.putfield 147, 3) := by decide +kernel
theorem dX4_readPerson_50 : decode cX4_readPerson 50 = .ok (.iconst 0, 1) := by decide +kernel
theorem dX4_readPerson_51 : decode cX4_readPerson 51 = .ok (.istore_n 2, 1) := by decide +kernel
theorem dX4_readPerson_52 : decode cX4_readPerson 52 = .ok (.iconst 0, 1) := by decide +kernel
theorem dX4_readPerson_53 : decode cX4_readPerson 53 = .ok (.istore_n 3, 1) := by decide +kernel
theorem dX4_readPerson_54 : decode cX4_readPerson 54 = .ok (.iload_n 3, 1) := by decide +kernel
theorem dX4_readPerson_55 : decode cX4_readPerson 55 = .ok (.bipush 24, 2) := by decide +kernel
theorem dX4_readPerson_57 : decode cX4_readPerson 57 = .ok (.if_icmp .gt 113, 3) := by decide +kernel
theorem dX4_readPerson_60 : decode cX4_readPerson 60 = .ok (.aload_n 0, 1) := by decide +kernel
theorem dX4_readPerson_61 : decode cX4_readPerson 61 = .ok (.getfield 62, 3) := by decide +kernel
theorem dX4_readPerson_64 : decode cX4_readPerson 64 = .ok (.bipush 16, 2) := by decide +kernel
theorem dX4_readPerson_66 : decode cX4_readPerson 66 = .ok (.if_icmp .ne 104, 3) := by decide +kernel
theorem dX4_readPerson_69 : decode cX4_readPerson 69 = .ok (.aload_n 0, 1) := by decide +kernel
theorem dX4_readPerson_70 : decode cX4_readPerson 70 = .ok (.invokevirtual 57, 3) := by decide +kernel
theorem dX4_readPerson_73 : decode cX4_readPerson 73 = .ok (.aload_n 0, 1) := by decide +kernel
theorem dX4_readPerson_74 : decode cX4_readPerson 74 = .ok (.getfield 114, 3) := by decide +kernel
theorem dX4_readPerson_77 : decode cX4_readPerson 77 = .ok (.istore 4, 2) := by decide +kernel
theorem dX4_readPerson_79 : decode cX4_readPerson 79 = .ok (.aload_n 0, 1) := by decide +kernel
theorem dX4_readPerson_80 : decode cX4_readPerson 80 = .ok (.iconst 1, 1) := by decide +kernel
theorem dX4_readPerson_81 : decode cX4_readPerson 81 = .ok (.bipush 24, 2) := by decide +kernel
theorem dX4_readPerson_83 : decode cX4_readPerson 83 = .ok (.invokevirtual 117, 3) := by decide +kernel
theorem dX4_readPerson_86 : decode cX4_readPerson 86 = .ok (.ifCond .eq 25, 3) := by decide +kernel
theorem dX4_readPerson_89 : decode cX4_readPerson 89 = .ok (.aload_n 0, 1) := by decide +kernel
theorem dX4_readPerson_90 : decode cX4_readPerson 90 = .ok (.iload_n 2, 1) := by decide +kernel
theorem dX4_readPerson_91 : decode cX4_readPerson 91 = .ok (.iload 4, 2) := by decide +kernel
theorem dX4_readPerson_93 : decode cX4_readPerson 93 = .ok (.ishr, 1) := by decide +kernel
theorem dX4_readPerson_94 : decode cX4_readPerson 94 = .ok (.iconst 1, 1) := by decide +kernel
theorem dX4_readPerson_95 : decode cX4_readPerson 95 = .ok (.iand, 1) := by decide +kernel
theorem dX4_readPerson_96 : decode cX4_readPerson 96 = .ok (.ifCond .ne 7, 3) := by decide +kernel
theorem dX4_readPerson_99 : decode cX4_readPerson 99 = .ok (.iconst 1, 1) := by decide +kernel
theorem dX4_readPerson_100 : decode cX4_readPerson 100 = .ok (.goto 4, 3) := by decide +kernel
theorem dX4_readPerson_103 : decode cX4_readPerson 103 = .ok (.iconst 0, 1) := by decide +kernel
theorem dX4_readPerson_104 : decode cX4_readPerson 104 = .ok (.iconst 3, 1) := by decide +kernel
theorem dX4_readPerson_105 : decode cX4_readPerson 105 = .ok (.invokevirtual 86, 3) := by decide +kernel
theorem dX4_readPerson_108 : decode cX4_readPerson 108 = .ok (.ifCond .ne 4, 3) := by decide +kernel
theorem dX4_readPerson_111 : decode cX4_readPerson 111 = .ok (.return_, 1) := by decide +kernel
theorem dX4_readPerson_112 : decode cX4_readPerson 112 = .ok (.iload_n 2, 1) := by decide +kernel
theorem dX4_readPerson_113 : decode cX4_readPerson 113 = .ok (.iconst 1, 1) := by decide +kernel
theorem dX4_readPerson_114 : decode cX4_readPerson 114 = .ok (.iload 4, 2) := by decide +kernel
theorem dX4_readPerson_116 : decode cX4_readPerson 116 = .ok (.ishl, 1) := by decide +kernel
theorem dX4_readPerson_117 : decode cX4_readPerson 117 = .ok (.ior, 1) := by decide +kernel
theorem dX4_readPerson_118 : decode cX4_readPerson 118 = .ok (.istore_n 2, 1) := by decide +kernel
theorem dX4_readPerson_119 : decode cX4_readPerson 119 = .ok (.aload_n 0, 1) := by decide +kernel
theorem dX4_readPerson_120 : decode cX4_readPerson 120 = .ok (.invokevirtual 57, 3) := by decide +kernel
theorem dX4_readPerson_123 : decode cX4_readPerson 123 = .ok (.aload_n 0, 1) := by decide +kernel
theorem dX4_readPerson_124 : decode cX4_readPerson 124 = .ok (.bipush 14, 2) := by decide +kernel
theorem dX4_readPerson_126 : decode cX4_readPerson 126 = .ok (.invokevirtual 101, 3) := by decide +kernel
theorem dX4_readPerson_129 : decode cX4_readPerson 129 = .ok (.ifCond .eq 18, 3) := by decide +kernel
theorem dX4_readPerson_132 : decode cX4_readPerson 132 = .ok (.aload_n 0, 1) := by decide +kernel
theorem dX4_readPerson_133 : decode cX4_readPerson 133 = .ok (.iconst 0, 1) := by decide +kernel
theorem dX4_readPerson_134 : decode cX4_readPerson 134 = .ok (.bipush 99, 2) := by decide +kernel
theorem dX4_readPerson_136 : decode cX4_readPerson 136 = .ok (.aload_n 0, 1) := by decide +kernel
theorem dX4_readPerson_137 : decode cX4_readPerson 137 = .ok (.getfield 15, 3) := by decide +kernel
theorem dX4_readPerson_140 : decode cX4_readPerson 140 = .ok (.iconst 0, 1) := by decide +kernel
theorem dX4_readPerson_141 : decode cX4_readPerson 141 = .ok (.invokevirtual 123, 3) := by decide +kernel
theorem dX4_readPerson_144 : decode cX4_readPerson 144 = .ok (.ifCond .ne 4, 3) := by decide +kernel
theorem dX4_readPerson_147 : decode cX4_readPerson 147 = .ok (.return_, 1) := by decide +kernel
theorem dX4_readPerson_148 : decode cX4_readPerson 148 = .ok (.aload_n 0, 1) := by decide +kernel
theorem dX4_readPerson_149 : decode cX4_readPerson 149 = .ok (.getfield 41, 3) := by decide +kernel
theorem dX4_readPerson_152 : decode cX4_readPerson 152 = .ok (.iload_n 1, 1) := by decide +kernel
theorem dX4_readPerson_153 : decode cX4_readPerson 153 = .ok (.iload 4, 2) := by decide +kernel
theorem dX4_readPerson_155 : decode cX4_readPerson 155 = .ok (.aload_n 0, 1) := by decide +kernel
theorem dX4_readPerson_156 : decode cX4_readPerson 156 = .ok (.getfield 15, 3) := by decide +kernel
theorem dX4_readPerson_159 : decode cX4_readPerson 159 = .ok (.iconst 0, 1) := by decide +kernel
theorem dX4_readPerson_160 : decode cX4_readPerson 160 = .ok (.iaload, 1) := by decide +kernel
theorem dX4_readPerson_161 : decode cX4_readPerson 161 = .ok (.invokevirtual 150, 3) := by decide +kernel
theorem dX4_readPerson_164 : decode cX4_readPerson 164 = .ok (.iinc 3 1, 3) := by decide +kernel
theorem dX4_readPerson_167 : decode cX4_readPerson 167 = .ok (.goto (-113), 3) := by decide +kernel
theorem dX4_readPerson_170 : decode cX4_readPerson 170 = .ok (.aload_n 0, 1) := by decide +kernel
theorem dX4_readPerson_171 : decode cX4_readPerson 171 = .ok (.iconst 2, 1) := by decide +kernel
theorem dX4_readPerson_172 : decode cX4_readPerson 172 = .ok (.invokevirtual 101, 3) := by decide +kernel
theorem dX4_readPerson_175 : decode cX4_readPerson 175 = .ok (.pop, 1) := by decide +kernel
theorem dX4_readPerson_176 : decode cX4_readPerson 176 = .ok (.return_, 1) := by decide +kernel
theorem dX4_readPaper_0 : decode cX4_readPaper 0 = .ok (.aload_n 0, 1) := by decide +kernel
theorem dX4_readPaper_1 : decode cX4_readPaper 1 = .ok (.getfield 41, 3) := by decide +kernel
theorem dX4_readPaper_4 : decode cX4_readPaper 4 = .ok (.getfield 153, 3) := by decide +kernel
theorem dX4_readPaper_7 : decode cX4_readPaper 7 = .ok (.istore_n 1, 1) := by decide +kernel
theorem dX4_readPaper_8 : decode cX4_readPaper 8 = .ok (.aload_n 0, 1) := by decide +kernel
theorem dX4_readPaper_9 : decode cX4_readPaper 9 = .ok (.iload_n 1, 1) := by decide +kernel
theorem dX4_readPaper_10 : decode cX4_readPaper 10 = .ok (.bipush 12, 2) := by decide +kernel
theorem dX4_readPaper_12 : decode cX4_readPaper 12 = .ok (.if_icmp .ge 7, 3) := by decide +kernel
theorem dX4_readPaper_15 : decode cX4_readPaper 15 = .ok (.iconst 1, 1) := by decide +kernel
theorem dX4_readPaper_16 : decode cX4_readPaper 16 = .ok (.goto 4, 3) := by decide +kernel
theorem dX4_readPaper_19 : decode cX4_readPaper 19 = .ok (.iconst 0, 1) := by decide +kernel
theorem dX4_readPaper_20 : decode cX4_readPaper 20 = .ok (.invokevirtual 93, 3) := by decide +kernel
theorem dX4_readPaper_23 : decode cX4_readPaper 23 = .ok (.ifCond .eq 22, 3) := by decide +kernel
theorem dX4_readPaper_26 : decode cX4_readPaper 26 = .ok (.aload_n 0, 1) := by decide +kernel
theorem dX4_readPaper_27 : decode cX4_readPaper 27 = .ok (.bipush 17, 2) := by decide +kernel
theorem dX4_readPaper_29 : decode cX4_readPaper 29 = .ok (.iload_n 1, 1) := by decide +kernel
theorem dX4_readPaper_30 : decode cX4_readPaper 30 = .ok (.invokevirtual 97, 3) := by decide +kernel
theorem dX4_readPaper_33 : decode cX4_readPaper 33 = .ok (.ifCond .eq 12, 3) := by decide +kernel
theorem dX4_readPaper_36 : decode cX4_readPaper 36 = .ok (.aload_n 0, 1) := by decide +kernel
theorem dX4_readPaper_37 : decode cX4_readPaper 37 = .ok (.bipush 18, 2) := by decide +kernel
theorem dX4_readPaper_39 : decode cX4_readPaper 39 = .ok (.invokevirtual 101, 3) := by decide +kernel
theorem dX4_readPaper_42 : decode cX4_readPaper 42 = .ok (.ifCond .ne 4, 3) := by decide +kernel
theorem dX4_readPaper_45 : decode cX4_readPaper 45 = .ok (.return_, 1) := by decide +kernel
theorem dX4_readPaper_46 : decode cX4_readPaper 46 = .ok (.aload_n 0, 1) := by decide +kernel
theorem dX4_readPaper_47 : decode cX4_readPaper 47 = .ok (.getfield 41, 3) := by decide +kernel
theorem dX4_readPaper_50 : decode cX4_readPaper 50 = .ok (.getfield 156, 3) := by decide +kernel
theorem dX4_readPaper_53 : decode cX4_readPaper 53 = .ok (.astore_n 2, 1) := by decide +kernel
theorem dX4_readPaper_54 : decode cX4_readPaper 54 = .ok (.iload_n 1, 1) := by decide +kernel
theorem dX4_readPaper_55 : decode cX4_readPaper 55 = .ok (.iconst 4, 1) := by decide +kernel
theorem dX4_readPaper_56 : decode cX4_readPaper 56 = .ok (.imul, 1) := by decide +kernel
theorem dX4_readPaper_57 : decode cX4_readPaper 57 = .ok (.istore_n 3, 1) := by decide +kernel
theorem dX4_readPaper_58 : decode cX4_readPaper 58 = .ok (.aload_n 2, 1) := by decide +kernel
theorem dX4_readPaper_59 : decode cX4_readPaper 59 = .ok (.iload_n 3, 1) := by decide +kernel
theorem dX4_readPaper_60 : decode cX4_readPaper 60 = .ok (.aload_n 0, 1) := by decide +kernel
theorem dX4_readPaper_61 : decode cX4_readPaper 61 = .ok (.iconst 5, 1) := by decide +kernel
theorem dX4_readPaper_62 : decode cX4_readPaper 62 = .ok (.invokevirtual 131, 3) := by decide +kernel
theorem dX4_readPaper_65 : decode cX4_readPaper 65 = .ok (.iastore, 1) := by decide +kernel
theorem dX4_readPaper_66 : decode cX4_readPaper 66 = .ok (.aload_n 2, 1) := by decide +kernel
theorem dX4_readPaper_67 : decode cX4_readPaper 67 = .ok (.iload_n 3, 1) := by decide +kernel
theorem dX4_readPaper_68 : decode cX4_readPaper 68 = .ok (.iaload, 1) := by decide +kernel
theorem dX4_readPaper_69 : decode cX4_readPaper 69 = .ok (.iconst (-1), 1) := by decide +kernel
theorem dX4_readPaper_70 : decode cX4_readPaper 70 = .ok (.if_icmp .ne 4, 3) := by decide +kernel
theorem dX4_readPaper_73 : decode cX4_readPaper 73 = .ok (.return_, 1) := by decide +kernel
theorem dX4_readPaper_74 : decode cX4_readPaper 74 = .ok (.aload_n 0, 1) := by decide +kernel
theorem dX4_readPaper_75 : decode cX4_readPaper 75 = .ok (.invokevirtual 57, 3) := by decide +kernel
theorem dX4_readPaper_78 : decode cX4_readPaper 78 = .ok (.aload_n 0, 1) := by decide +kernel
theorem dX4_readPaper_79 : decode cX4_readPaper 79 = .ok (.bipush 10, 2) := by decide +kernel
theorem dX4_readPaper_81 : decode cX4_readPaper 81 = .ok (.invokevirtual 101, 3) := by decide +kernel
theorem dX4_readPaper_84 : decode cX4_readPaper 84 = .ok (.ifCond .eq 105, 3) := by decide +kernel
theorem dX4_readPaper_87 : decode cX4_readPaper 87 = .ok (.aload_n 0, 1) := by decide +kernel
theorem dX4_readPaper_88 : decode cX4_readPaper 88 = .ok (.iconst 0, 1) := by decide +kernel
theorem dX4_readPaper_89 : decode cX4_readPaper 89 = .ok (.sipush 3649, 3) := by decide +kernel
theorem dX4_readPaper_92 : decode cX4_readPaper 92 = .ok (.aload_n 2, 1) := by decide +kernel
theorem dX4_readPaper_93 : decode cX4_readPaper 93 = .ok (.iload_n 3, 1) := by decide +kernel
theorem dX4_readPaper_94 : decode cX4_readPaper 94 = .ok (.iconst 1, 1) := by decide +kernel
theorem dX4_readPaper_95 : decode cX4_readPaper 95 = .ok (.iadd, 1) := by decide +kernel
theorem dX4_readPaper_96 : decode cX4_readPaper 96 = .ok (.invokevirtual 123, 3) := by decide +kernel
theorem dX4_readPaper_99 : decode cX4_readPaper 99 = .ok (.ifCond .eq 90, 3) := by decide +kernel
theorem dX4_readPaper_102 : decode cX4_readPaper 102 = .ok (.aload_n 0, 1) := by decide +kernel
theorem dX4_readPaper_103 : decode cX4_readPaper 103 = .ok (.bipush 7, 2) := by decide +kernel
theorem dX4_readPaper_105 : decode cX4_readPaper 105 = .ok (.invokevirtual 101, 3) := by decide +kernel
theorem dX4_readPaper_108 : decode cX4_readPaper 108 = .ok (.ifCond .eq 81, 3) := by decide +kernel
theorem dX4_readPaper_111 : decode cX4_readPaper 111 = .ok (.aload_n 0, 1) := by decide +kernel
theorem dX4_readPaper_112 : decode cX4_readPaper 112 = .ok (.iconst 0, 1) := by decide +kernel
theorem dX4_readPaper_113 : decode cX4_readPaper 113 = .ok (.sipush 1439, 3) := by decide +kernel
theorem dX4_readPaper_116 : decode cX4_readPaper 116 = .ok (.aload_n 2, 1) := by decide +kernel
theorem dX4_readPaper_117 : decode cX4_readPaper 117 = .ok (.iload_n 3, 1) := by decide +kernel
theorem dX4_readPaper_118 : decode cX4_readPaper 118 = .ok (.iconst 2, 1) := by decide +kernel
theorem dX4_readPaper_119 : decode cX4_readPaper 119 = .ok (.iadd, 1) := by decide +kernel
theorem dX4_readPaper_120 : decode cX4_readPaper 120 = .ok (.invokevirtual 123, 3) := by decide +kernel
theorem dX4_readPaper_123 : decode cX4_readPaper 123 = .ok (.ifCond .eq 66, 3) := by decide +kernel
theorem dX4_readPaper_126 : decode cX4_readPaper 126 = .ok (.aload_n 2, 1) := by decide +kernel
theorem dX4_readPaper_127 : decode cX4_readPaper 127 = .ok (.iload_n 3, 1) := by decide +kernel
theorem dX4_readPaper_128 : decode cX4_readPaper 128 = .ok (.iconst 3, 1) := by decide +kernel
theorem dX4_readPaper_129 : decode cX4_readPaper 129 = .ok (.iadd, 1) := by decide +kernel
theorem dX4_readPaper_130 : decode cX4_readPaper 130 = .ok (.aload_n 0, 1) := by decide +kernel
theorem dX4_readPaper_131 : decode cX4_readPaper 131 = .ok (.getfield 62, 3) := by decide +kernel
theorem dX4_readPaper_134 : decode cX4_readPaper 134 = .ok (.bipush 19, 2) := by decide +kernel
theorem dX4_readPaper_136 : decode cX4_readPaper 136 = .ok (.if_icmp .ne 7, 3) := by decide +kernel
theorem dX4_readPaper_139 : decode cX4_readPaper 139 = .ok (.iconst 1, 1) := by decide +kernel
theorem dX4_readPaper_140 : decode cX4_readPaper 140 = .ok (.goto 17, 3) := by decide +kernel
theorem dX4_readPaper_143 : decode cX4_readPaper 143 = .ok (.aload_n 0, 1) := by decide +kernel
theorem dX4_readPaper_144 : decode cX4_readPaper 144 = .ok (.getfield 62, 3) := by decide +kernel
theorem dX4_readPaper_147 : decode cX4_readPaper 147 = .ok (.bipush 20, 2) := by decide +kernel
theorem dX4_readPaper_149 : decode cX4_readPaper 149 = .ok (.if_icmp .ne 7, 3) := by decide +kernel
theorem dX4_readPaper_152 : decode cX4_readPaper 152 = .ok (.iconst 2, 1) := by decide +kernel
theorem dX4_readPaper_153 : decode cX4_readPaper 153 = .ok (.goto 4, 3) := by decide +kernel
theorem dX4_readPaper_156 : decode cX4_readPaper 156 = .ok (.iconst 0, 1) := by decide +kernel
theorem dX4_readPaper_157 : decode cX4_readPaper 157 = .ok (.iastore, 1) := by decide +kernel
theorem dX4_readPaper_158 : decode cX4_readPaper 158 = .ok (.aload_n 2, 1) := by decide +kernel
theorem dX4_readPaper_159 : decode cX4_readPaper 159 = .ok (.iload_n 3, 1) := by decide +kernel
theorem dX4_readPaper_160 : decode cX4_readPaper 160 = .ok (.iconst 3, 1) := by decide +kernel
theorem dX4_readPaper_161 : decode cX4_readPaper 161 = .ok (.iadd, 1) := by decide +kernel
theorem dX4_readPaper_162 : decode cX4_readPaper 162 = .ok (.iaload, 1) := by decide +kernel
theorem dX4_readPaper_163 : decode cX4_readPaper 163 = .ok (.ifCond .le 7, 3) := by decide +kernel
theorem dX4_readPaper_166 : decode cX4_readPaper 166 = .ok (.aload_n 0, 1) := by decide +kernel
theorem dX4_readPaper_167 : decode cX4_readPaper 167 = .ok (.invokevirtual 57, 3) := by decide +kernel
theorem dX4_readPaper_170 : decode cX4_readPaper 170 = .ok (.aload_n 0, 1) := by decide +kernel
theorem dX4_readPaper_171 : decode cX4_readPaper 171 = .ok (.getfield 41, 3) := by decide +kernel
theorem dX4_readPaper_174 : decode cX4_readPaper 174 = .ok (.dup, 1) := by decide +kernel
theorem dX4_readPaper_175 : decode cX4_readPaper 175 = .ok (.getfield 153, 3) := by decide +kernel
theorem dX4_readPaper_178 : decode cX4_readPaper 178 = .ok (.iconst 1, 1) := by decide +kernel
theorem dX4_readPaper_179 : decode cX4_readPaper 179 = .ok (.iadd, 1) := by decide +kernel
theorem dX4_readPaper_180 : decode cX4_readPaper 180 = .ok (.putfield 153, 3) := by decide +kernel
theorem dX4_readPaper_183 : decode cX4_readPaper 183 = .ok (.aload_n 0, 1) := by decide +kernel
theorem dX4_readPaper_184 : decode cX4_readPaper 184 = .ok (.iconst 2, 1) := by decide +kernel
theorem dX4_readPaper_185 : decode cX4_readPaper 185 = .ok (.invokevirtual 101, 3) := by decide +kernel
theorem dX4_readPaper_188 : decode cX4_readPaper 188 = .ok (.pop, 1) := by decide +kernel
theorem dX4_readPaper_189 : decode cX4_readPaper 189 = .ok (.return_, 1) := by decide +kernel
theorem dX4_readRule_0 : decode cX4_readRule 0 = .ok (.aload_n 0, 1) := by decide +kernel
theorem dX4_readRule_1 : decode cX4_readRule 1 = .ok (.getfield 41, 3) := by decide +kernel
theorem dX4_readRule_4 : decode cX4_readRule 4 = .ok (.getfield 159, 3) := by decide +kernel
theorem dX4_readRule_7 : decode cX4_readRule 7 = .ok (.istore_n 1, 1) := by decide +kernel
theorem dX4_readRule_8 : decode cX4_readRule 8 = .ok (.aload_n 0, 1) := by decide +kernel
theorem dX4_readRule_9 : decode cX4_readRule 9 = .ok (.getfield 62, 3) := by decide +kernel
theorem dX4_readRule_12 : decode cX4_readRule 12 = .ok (.bipush 22, 2) := by decide +kernel
theorem dX4_readRule_14 : decode cX4_readRule 14 = .ok (.if_icmp .ne 7, 3) := by decide +kernel
theorem dX4_readRule_17 : decode cX4_readRule 17 = .ok (.iconst 1, 1) := by decide +kernel
theorem dX4_readRule_18 : decode cX4_readRule 18 = .ok (.goto 4, 3) := by decide +kernel
theorem dX4_readRule_21 : decode cX4_readRule 21 = .ok (.iconst 0, 1) := by decide +kernel
theorem dX4_readRule_22 : decode cX4_readRule 22 = .ok (.istore_n 2, 1) := by decide +kernel
theorem dX4_readRule_23 : decode cX4_readRule 23 = .ok (.aload_n 0, 1) := by decide +kernel
theorem dX4_readRule_24 : decode cX4_readRule 24 = .ok (.iload_n 1, 1) := by decide +kernel
theorem dX4_readRule_25 : decode cX4_readRule 25 = .ok (.bipush 16, 2) := by decide +kernel
theorem dX4_readRule_27 : decode cX4_readRule 27 = .ok (.if_icmp .ge 7, 3) := by decide +kernel
theorem dX4_readRule_30 : decode cX4_readRule 30 = .ok (.iconst 1, 1) := by decide +kernel
theorem dX4_readRule_31 : decode cX4_readRule 31 = .ok (.goto 4, 3) := by decide +kernel
theorem dX4_readRule_34 : decode cX4_readRule 34 = .ok (.iconst 0, 1) := by decide +kernel
theorem dX4_readRule_35 : decode cX4_readRule 35 = .ok (.invokevirtual 93, 3) := by decide +kernel
theorem dX4_readRule_38 : decode cX4_readRule 38 = .ok (.ifCond .ne 4, 3) := by decide +kernel
theorem dX4_readRule_41 : decode cX4_readRule 41 = .ok (.return_, 1) := by decide +kernel
theorem dX4_readRule_42 : decode cX4_readRule 42 = .ok (.aload_n 0, 1) := by decide +kernel
theorem dX4_readRule_43 : decode cX4_readRule 43 = .ok (.bipush 17, 2) := by decide +kernel
theorem dX4_readRule_45 : decode cX4_readRule 45 = .ok (.invokevirtual 131, 3) := by decide +kernel
theorem dX4_readRule_48 : decode cX4_readRule 48 = .ok (.istore_n 3, 1) := by decide +kernel
theorem dX4_readRule_49 : decode cX4_readRule 49 = .ok (.iload_n 3, 1) := by decide +kernel
theorem dX4_readRule_50 : decode cX4_readRule 50 = .ok (.iconst (-1), 1) := by decide +kernel
theorem dX4_readRule_51 : decode cX4_readRule 51 = .ok (.if_icmp .ne 4, 3) := by decide +kernel
theorem dX4_readRule_54 : decode cX4_readRule 54 = .ok (.return_, 1) := by decide +kernel
theorem dX4_readRule_55 : decode cX4_readRule 55 = .ok (.aload_n 0, 1) := by decide +kernel
theorem dX4_readRule_56 : decode cX4_readRule 56 = .ok (.invokevirtual 57, 3) := by decide +kernel
theorem dX4_readRule_59 : decode cX4_readRule 59 = .ok (.aload_n 0, 1) := by decide +kernel
theorem dX4_readRule_60 : decode cX4_readRule 60 = .ok (.bipush 17, 2) := by decide +kernel
theorem dX4_readRule_62 : decode cX4_readRule 62 = .ok (.invokevirtual 131, 3) := by decide +kernel
theorem dX4_readRule_65 : decode cX4_readRule 65 = .ok (.istore 4, 2) := by decide +kernel
theorem dX4_readRule_67 : decode cX4_readRule 67 = .ok (.iload 4, 2) := by decide +kernel
theorem dX4_readRule_69 : decode cX4_readRule 69 = .ok (.iconst (-1), 1) := by decide +kernel
theorem dX4_readRule_70 : decode cX4_readRule 70 = .ok (.if_icmp .eq 22, 3) := by decide +kernel
theorem dX4_readRule_73 : decode cX4_readRule 73 = .ok (.aload_n 0, 1) := by decide +kernel
theorem dX4_readRule_74 : decode cX4_readRule 74 = .ok (.iload_n 3, 1) := by decide +kernel
theorem dX4_readRule_75 : decode cX4_readRule 75 = .ok (.iload 4, 2) := by decide +kernel
theorem dX4_readRule_77 : decode cX4_readRule 77 = .ok (.if_icmp .eq 7, 3) := by decide +kernel
theorem dX4_readRule_80 : decode cX4_readRule 80 = .ok (.iconst 1, 1) := by decide +kernel
theorem dX4_readRule_81 : decode cX4_readRule 81 = .ok (.goto 4, 3) := by decide +kernel
theorem dX4_readRule_84 : decode cX4_readRule 84 = .ok (.iconst 0, 1) := by decide +kernel
theorem dX4_readRule_85 : decode cX4_readRule 85 = .ok (.iconst 3, 1) := by decide +kernel
theorem dX4_readRule_86 : decode cX4_readRule 86 = .ok (.invokevirtual 86, 3) := by decide +kernel
theorem dX4_readRule_89 : decode cX4_readRule 89 = .ok (.ifCond .ne 4, 3) := by decide +kernel
theorem dX4_readRule_92 : decode cX4_readRule 92 = .ok (.return_, 1) := by decide +kernel
theorem dX4_readRule_93 : decode cX4_readRule 93 = .ok (.aload_n 0, 1) := by decide +kernel
theorem dX4_readRule_94 : decode cX4_readRule 94 = .ok (.invokevirtual 57, 3) := by decide +kernel
theorem dX4_readRule_97 : decode cX4_readRule 97 = .ok (.iload_n 1, 1) := by decide +kernel
theorem dX4_readRule_98 : decode cX4_readRule 98 = .ok (.iconst 4, 1) := by decide +kernel
theorem dX4_readRule_99 : decode cX4_readRule 99 = .ok (.imul, 1) := by decide +kernel
theorem dX4_readRule_100 : decode cX4_readRule 100 = .ok (.istore 5, 2) := by decide +kernel
theorem dX4_readRule_102 : decode cX4_readRule 102 = .ok (.aload_n 0, 1) := by decide +kernel
theorem dX4_readRule_103 : decode cX4_readRule 103 = .ok (.getfield 41, 3) := by decide +kernel
theorem dX4_readRule_106 : decode cX4_readRule 106 = .ok (.getfield 162, 3) := by decide +kernel
theorem dX4_readRule_109 : decode cX4_readRule 109 = .ok (.iload 5, 2) := by decide +kernel
theorem dX4_readRule_111 : decode cX4_readRule 111 = .ok (.iload_n 2, 1) := by decide +kernel
theorem dX4_readRule_112 : decode cX4_readRule 112 = .ok (.iastore, 1) := by decide +kernel
theorem dX4_readRule_113 : decode cX4_readRule 113 = .ok (.aload_n 0, 1) := by decide +kernel
theorem dX4_readRule_114 : decode cX4_readRule 114 = .ok (.getfield 41, 3) := by decide +kernel
theorem dX4_readRule_117 : decode cX4_readRule 117 = .ok (.getfield 162, 3) := by decide +kernel
theorem dX4_readRule_120 : decode cX4_readRule 120 = .ok (.iload 5, 2) := by decide +kernel
theorem dX4_readRule_122 : decode cX4_readRule 122 = .ok (.iconst 1, 1) := by decide +kernel
theorem dX4_readRule_123 : decode cX4_readRule 123 = .ok (.iadd, 1) := by decide +kernel
theorem dX4_readRule_124 : decode cX4_readRule 124 = .ok (.iload_n 3, 1) := by decide +kernel
theorem dX4_readRule_125 : decode cX4_readRule 125 = .ok (.iastore, 1) := by decide +kernel
theorem dX4_readRule_126 : decode cX4_readRule 126 = .ok (.aload_n 0, 1) := by decide +kernel
theorem dX4_readRule_127 : decode cX4_readRule 127 = .ok (.getfield 41, 3) := by decide +kernel
theorem dX4_readRule_130 : decode cX4_readRule 130 = .ok (.getfield 162, 3) := by decide +kernel
theorem dX4_readRule_133 : decode cX4_readRule 133 = .ok (.iload 5, 2) := by decide +kernel
theorem dX4_readRule_135 : decode cX4_readRule 135 = .ok (.iconst 2, 1) := by decide +kernel
theorem dX4_readRule_136 : decode cX4_readRule 136 = .ok (.iadd, 1) := by decide +kernel
theorem dX4_readRule_137 : decode cX4_readRule 137 = .ok (.iload 4, 2) := by decide +kernel
theorem dX4_readRule_139 : decode cX4_readRule 139 = .ok (.iastore, 1) := by decide +kernel
theorem dX4_readRule_140 : decode cX4_readRule 140 = .ok (.aload_n 0, 1) := by decide +kernel
theorem dX4_readRule_141 : decode cX4_readRule 141 = .ok (.iconst 0, 1) := by decide +kernel
theorem dX4_readRule_142 : decode cX4_readRule 142 = .ok (.sipush 9999, 3) := by decide +kernel
theorem dX4_readRule_145 : decode cX4_readRule 145 = .ok (.aload_n 0, 1) := by decide +kernel
theorem dX4_readRule_146 : decode cX4_readRule 146 = .ok (.getfield 41, 3) := by decide +kernel
theorem dX4_readRule_149 : decode cX4_readRule 149 = .ok (.getfield 162, 3) := by decide +kernel
theorem dX4_readRule_152 : decode cX4_readRule 152 = .ok (.iload 5, 2) := by decide +kernel
theorem dX4_readRule_154 : decode cX4_readRule 154 = .ok (.iconst 3, 1) := by decide +kernel
theorem dX4_readRule_155 : decode cX4_readRule 155 = .ok (.iadd, 1) := by decide +kernel
theorem dX4_readRule_156 : decode cX4_readRule 156 = .ok (.invokevirtual 123, 3) := by decide +kernel
theorem dX4_readRule_159 : decode cX4_readRule 159 = .ok (.ifCond .eq 22, 3) := by decide +kernel
theorem dX4_readRule_162 : decode cX4_readRule 162 = .ok (.aload_n 0, 1) := by decide +kernel
theorem dX4_readRule_163 : decode cX4_readRule 163 = .ok (.getfield 41, 3) := by decide +kernel
theorem dX4_readRule_166 : decode cX4_readRule 166 = .ok (.dup, 1) := by decide +kernel
theorem dX4_readRule_167 : decode cX4_readRule 167 = .ok (.getfield 159, 3) := by decide +kernel
theorem dX4_readRule_170 : decode cX4_readRule 170 = .ok (.iconst 1, 1) := by decide +kernel
theorem dX4_readRule_171 : decode cX4_readRule 171 = .ok (.iadd, 1) := by decide +kernel
theorem dX4_readRule_172 : decode cX4_readRule 172 = .ok (.putfield 159, 3) := by decide +kernel
theorem dX4_readRule_175 : decode cX4_readRule 175 = .ok (.aload_n 0, 1) := by decide +kernel
theorem dX4_readRule_176 : decode cX4_readRule 176 = .ok (.iconst 2, 1) := by decide +kernel
theorem dX4_readRule_177 : decode cX4_readRule 177 = .ok (.invokevirtual 101, 3) := by decide +kernel
theorem dX4_readRule_180 : decode cX4_readRule 180 = .ok (.pop, 1) := by decide +kernel
theorem dX4_readRule_181 : decode cX4_readRule 181 = .ok (.return_, 1) := by decide +kernel
theorem dX4_takeOneMore_0 : decode cX4_takeOneMore 0 = .ok (.aload_n 0, 1) := by decide +kernel
theorem dX4_takeOneMore_1 : decode cX4_takeOneMore 1 = .ok (.iload_n 1, 1) := by decide +kernel
theorem dX4_takeOneMore_2 : decode cX4_takeOneMore 2 = .ok (.iconst 5, 1) := by decide +kernel
theorem dX4_takeOneMore_3 : decode cX4_takeOneMore 3 = .ok (.invokevirtual 86, 3) := by decide +kernel
theorem dX4_takeOneMore_6 : decode cX4_takeOneMore 6 = .ok (.ifCond .ne 5, 3) := by decide +kernel
theorem dX4_takeOneMore_9 : decode cX4_takeOneMore 9 = .ok (.iconst 0, 1) := by decide +kernel
theorem dX4_takeOneMore_10 : decode cX4_takeOneMore 10 = .ok (.ireturn, 1) := by decide +kernel
theorem dX4_takeOneMore_11 : decode cX4_takeOneMore 11 = .ok (.aload_n 0, 1) := by decide +kernel
theorem dX4_takeOneMore_12 : decode cX4_takeOneMore 12 = .ok (.invokevirtual 57, 3) := by decide +kernel
theorem dX4_takeOneMore_15 : decode cX4_takeOneMore 15 = .ok (.iconst 1, 1) := by decide +kernel
theorem dX4_takeOneMore_16 : decode cX4_takeOneMore 16 = .ok (.ireturn, 1) := by decide +kernel
theorem dX4_take_0 : decode cX4_take 0 = .ok (.aload_n 0, 1) := by decide +kernel
theorem dX4_take_1 : decode cX4_take 1 = .ok (.aload_n 0, 1) := by decide +kernel
theorem dX4_take_2 : decode cX4_take 2 = .ok (.getfield 62, 3) := by decide +kernel
theorem dX4_take_5 : decode cX4_take 5 = .ok (.iload_n 1, 1) := by decide +kernel
theorem dX4_take_6 : decode cX4_take 6 = .ok (.if_icmp .ne 7, 3) := by decide +kernel
theorem dX4_take_9 : decode cX4_take 9 = .ok (.iconst 1, 1) := by decide +kernel
theorem dX4_take_10 : decode cX4_take 10 = .ok (.goto 4, 3) := by decide +kernel
theorem dX4_take_13 : decode cX4_take 13 = .ok (.iconst 0, 1) := by decide +kernel
theorem dX4_take_14 : decode cX4_take 14 = .ok (.iconst 1, 1) := by decide +kernel
theorem dX4_take_15 : decode cX4_take 15 = .ok (.invokevirtual 86, 3) := by decide +kernel
theorem dX4_take_18 : decode cX4_take 18 = .ok (.ifCond .ne 5, 3) := by decide +kernel
theorem dX4_take_21 : decode cX4_take 21 = .ok (.iconst 0, 1) := by decide +kernel
theorem dX4_take_22 : decode cX4_take 22 = .ok (.ireturn, 1) := by decide +kernel
theorem dX4_take_23 : decode cX4_take 23 = .ok (.aload_n 0, 1) := by decide +kernel
theorem dX4_take_24 : decode cX4_take 24 = .ok (.invokevirtual 57, 3) := by decide +kernel
theorem dX4_take_27 : decode cX4_take 27 = .ok (.iconst 1, 1) := by decide +kernel
theorem dX4_take_28 : decode cX4_take 28 = .ok (.ireturn, 1) := by decide +kernel
theorem dX4_takeNewName_0 : decode cX4_takeNewName 0 = .ok (.aload_n 0, 1) := by decide +kernel
theorem dX4_takeNewName_1 : decode cX4_takeNewName 1 = .ok (.aload_n 0, 1) := by decide +kernel
theorem dX4_takeNewName_2 : decode cX4_takeNewName 2 = .ok (.getfield 62, 3) := by decide +kernel
theorem dX4_takeNewName_5 : decode cX4_takeNewName 5 = .ok (.iconst 4, 1) := by decide +kernel
theorem dX4_takeNewName_6 : decode cX4_takeNewName 6 = .ok (.if_icmp .ne 7, 3) := by decide +kernel
theorem dX4_takeNewName_9 : decode cX4_takeNewName 9 = .ok (.iconst 1, 1) := by decide +kernel
theorem dX4_takeNewName_10 : decode cX4_takeNewName 10 = .ok (.goto 4, 3) := by decide +kernel
theorem dX4_takeNewName_13 : decode cX4_takeNewName 13 = .ok (.iconst 0, 1) := by decide +kernel
theorem dX4_takeNewName_14 : decode cX4_takeNewName 14 = .ok (.iconst 1, 1) := by decide +kernel
theorem dX4_takeNewName_15 : decode cX4_takeNewName 15 = .ok (.invokevirtual 86, 3) := by decide +kernel
theorem dX4_takeNewName_18 : decode cX4_takeNewName 18 = .ok (.ifCond .eq 31, 3) := by decide +kernel
theorem dX4_takeNewName_21 : decode cX4_takeNewName 21 = .ok (.aload_n 0, 1) := by decide +kernel
theorem dX4_takeNewName_22 : decode cX4_takeNewName 22 = .ok (.aload_n 0, 1) := by decide +kernel
theorem dX4_takeNewName_23 : decode cX4_takeNewName 23 = .ok (.getfield 41, 3) := by decide +kernel
theorem dX4_takeNewName_26 : decode cX4_takeNewName 26 = .ok (.aload_n 0, 1) := by decide +kernel
theorem dX4_takeNewName_27 : decode cX4_takeNewName 27 = .ok (.getfield 165, 3) := by decide +kernel
theorem dX4_takeNewName_30 : decode cX4_takeNewName 30 = .ok (.invokevirtual 169, 3) := by decide +kernel
theorem dX4_takeNewName_33 : decode cX4_takeNewName 33 = .ok (.iconst (-1), 1) := by decide +kernel
theorem dX4_takeNewName_34 : decode cX4_takeNewName 34 = .ok (.if_icmp .ne 7, 3) := by decide +kernel
theorem dX4_takeNewName_37 : decode cX4_takeNewName 37 = .ok (.iconst 1, 1) := by decide +kernel
theorem dX4_takeNewName_38 : decode cX4_takeNewName 38 = .ok (.goto 4, 3) := by decide +kernel
theorem dX4_takeNewName_41 : decode cX4_takeNewName 41 = .ok (.iconst 0, 1) := by decide +kernel
theorem dX4_takeNewName_42 : decode cX4_takeNewName 42 = .ok (.iconst 3, 1) := by decide +kernel
theorem dX4_takeNewName_43 : decode cX4_takeNewName 43 = .ok (.invokevirtual 86, 3) := by decide +kernel
theorem dX4_takeNewName_46 : decode cX4_takeNewName 46 = .ok (.ifCond .ne 5, 3) := by decide +kernel
theorem dX4_takeNewName_49 : decode cX4_takeNewName 49 = .ok (.iconst 0, 1) := by decide +kernel
theorem dX4_takeNewName_50 : decode cX4_takeNewName 50 = .ok (.ireturn, 1) := by decide +kernel
theorem dX4_takeNewName_51 : decode cX4_takeNewName 51 = .ok (.aload_n 0, 1) := by decide +kernel
theorem dX4_takeNewName_52 : decode cX4_takeNewName 52 = .ok (.getfield 41, 3) := by decide +kernel
theorem dX4_takeNewName_55 : decode cX4_takeNewName 55 = .ok (.aload_n 0, 1) := by decide +kernel
theorem dX4_takeNewName_56 : decode cX4_takeNewName 56 = .ok (.getfield 165, 3) := by decide +kernel
theorem dX4_takeNewName_59 : decode cX4_takeNewName 59 = .ok (.iload_n 1, 1) := by decide +kernel
theorem dX4_takeNewName_60 : decode cX4_takeNewName 60 = .ok (.iload_n 2, 1) := by decide +kernel
theorem dX4_takeNewName_61 : decode cX4_takeNewName 61 = .ok (.invokevirtual 173, 3) := by decide +kernel
theorem dX4_takeNewName_64 : decode cX4_takeNewName 64 = .ok (.aload_n 0, 1) := by decide +kernel
theorem dX4_takeNewName_65 : decode cX4_takeNewName 65 = .ok (.invokevirtual 57, 3) := by decide +kernel
theorem dX4_takeNewName_68 : decode cX4_takeNewName 68 = .ok (.iconst 1, 1) := by decide +kernel
theorem dX4_takeNewName_69 : decode cX4_takeNewName 69 = .ok (.ireturn, 1) := by decide +kernel
theorem dX4_toldName_0 : decode cX4_toldName 0 = .ok (.aload_n 0, 1) := by decide +kernel
theorem dX4_toldName_1 : decode cX4_toldName 1 = .ok (.aload_n 0, 1) := by decide +kernel
theorem dX4_toldName_2 : decode cX4_toldName 2 = .ok (.getfield 62, 3) := by decide +kernel
theorem dX4_toldName_5 : decode cX4_toldName 5 = .ok (.iconst 4, 1) := by decide +kernel
theorem dX4_toldName_6 : decode cX4_toldName 6 = .ok (.if_icmp .ne 7, 3) := by decide +kernel
theorem dX4_toldName_9 : decode cX4_toldName 9 = .ok (.iconst 1, 1) := by decide +kernel
theorem dX4_toldName_10 : decode cX4_toldName 10 = .ok (.goto 4, 3) := by decide +kernel
theorem dX4_toldName_13 : decode cX4_toldName 13 = .ok (.iconst 0, 1) := by decide +kernel
theorem dX4_toldName_14 : decode cX4_toldName 14 = .ok (.iconst 1, 1) := by decide +kernel
theorem dX4_toldName_15 : decode cX4_toldName 15 = .ok (.invokevirtual 86, 3) := by decide +kernel
theorem dX4_toldName_18 : decode cX4_toldName 18 = .ok (.ifCond .ne 5, 3) := by decide +kernel
theorem dX4_toldName_21 : decode cX4_toldName 21 = .ok (.iconst (-1), 1) := by decide +kernel
theorem dX4_toldName_22 : decode cX4_toldName 22 = .ok (.ireturn, 1) := by decide +kernel
theorem dX4_toldName_23 : decode cX4_toldName 23 = .ok (.aload_n 0, 1) := by decide +kernel
theorem dX4_toldName_24 : decode cX4_toldName 24 = .ok (.getfield 41, 3) := by decide +kernel
theorem dX4_toldName_27 : decode cX4_toldName 27 = .ok (.aload_n 0, 1) := by decide +kernel
theorem dX4_toldName_28 : decode cX4_toldName 28 = .ok (.getfield 165, 3) := by decide +kernel
theorem dX4_toldName_31 : decode cX4_toldName 31 = .ok (.invokevirtual 169, 3) := by decide +kernel
theorem dX4_toldName_34 : decode cX4_toldName 34 = .ok (.istore_n 2, 1) := by decide +kernel
theorem dX4_toldName_35 : decode cX4_toldName 35 = .ok (.aload_n 0, 1) := by decide +kernel
theorem dX4_toldName_36 : decode cX4_toldName 36 = .ok (.iload_n 2, 1) := by decide +kernel
theorem dX4_toldName_37 : decode cX4_toldName 37 = .ok (.iconst (-1), 1) := by decide +kernel
theorem dX4_toldName_38 : decode cX4_toldName 38 = .ok (.if_icmp .eq 20, 3) := by decide +kernel
theorem dX4_toldName_41 : decode cX4_toldName 41 = .ok (.aload_n 0, 1) := by decide +kernel
theorem dX4_toldName_42 : decode cX4_toldName 42 = .ok (.getfield 41, 3) := by decide +kernel
theorem dX4_toldName_45 : decode cX4_toldName 45 = .ok (.getfield 177, 3) := by decide +kernel
theorem dX4_toldName_48 : decode cX4_toldName 48 = .ok (.iload_n 2, 1) := by decide +kernel
theorem dX4_toldName_49 : decode cX4_toldName 49 = .ok (.iaload, 1) := by decide +kernel
theorem dX4_toldName_50 : decode cX4_toldName 50 = .ok (.iload_n 1, 1) := by decide +kernel
theorem dX4_toldName_51 : decode cX4_toldName 51 = .ok (.if_icmp .ne 7, 3) := by decide +kernel
theorem dX4_toldName_54 : decode cX4_toldName 54 = .ok (.iconst 1, 1) := by decide +kernel
theorem dX4_toldName_55 : decode cX4_toldName 55 = .ok (.goto 4, 3) := by decide +kernel
theorem dX4_toldName_58 : decode cX4_toldName 58 = .ok (.iconst 0, 1) := by decide +kernel
theorem dX4_toldName_59 : decode cX4_toldName 59 = .ok (.iconst 2, 1) := by decide +kernel
theorem dX4_toldName_60 : decode cX4_toldName 60 = .ok (.invokevirtual 86, 3) := by decide +kernel
theorem dX4_toldName_63 : decode cX4_toldName 63 = .ok (.ifCond .ne 5, 3) := by decide +kernel
theorem dX4_toldName_66 : decode cX4_toldName 66 = .ok (.iconst (-1), 1) := by decide +kernel
theorem dX4_toldName_67 : decode cX4_toldName 67 = .ok (.ireturn, 1) := by decide +kernel
theorem dX4_toldName_68 : decode cX4_toldName 68 = .ok (.aload_n 0, 1) := by decide +kernel
theorem dX4_toldName_69 : decode cX4_toldName 69 = .ok (.getfield 41, 3) := by decide +kernel
theorem dX4_toldName_72 : decode cX4_toldName 72 = .ok (.getfield 180, 3) := by decide +kernel
theorem dX4_toldName_75 : decode cX4_toldName 75 = .ok (.iload_n 2, 1) := by decide +kernel
theorem dX4_toldName_76 : decode cX4_toldName 76 = .ok (.iaload, 1) := by decide +kernel
theorem dX4_toldName_77 : decode cX4_toldName 77 = .ok (.ireturn, 1) := by decide +kernel
theorem dX4_isNumber_0 : decode cX4_isNumber 0 = .ok (.aload_n 0, 1) := by decide +kernel
theorem dX4_isNumber_1 : decode cX4_isNumber 1 = .ok (.aload_n 0, 1) := by decide +kernel
theorem dX4_isNumber_2 : decode cX4_isNumber 2 = .ok (.getfield 62, 3) := by decide +kernel
theorem dX4_isNumber_5 : decode cX4_isNumber 5 = .ok (.iconst 3, 1) := by decide +kernel
theorem dX4_isNumber_6 : decode cX4_isNumber 6 = .ok (.if_icmp .ne 7, 3) := by decide +kernel
theorem dX4_isNumber_9 : decode cX4_isNumber 9 = .ok (.iconst 1, 1) := by decide +kernel
theorem dX4_isNumber_10 : decode cX4_isNumber 10 = .ok (.goto 4, 3) := by decide +kernel
theorem dX4_isNumber_13 : decode cX4_isNumber 13 = .ok (.iconst 0, 1) := by decide +kernel
theorem dX4_isNumber_14 : decode cX4_isNumber 14 = .ok (.iconst 1, 1) := by decide +kernel
theorem dX4_isNumber_15 : decode cX4_isNumber 15 = .ok (.invokevirtual 86, 3) := by decide +kernel
theorem dX4_isNumber_18 : decode cX4_isNumber 18 = .ok (.ifCond .eq 24, 3) := by decide +kernel
theorem dX4_isNumber_21 : decode cX4_isNumber 21 = .ok (.aload_n 0, 1) := by decide +kernel
theorem dX4_isNumber_22 : decode cX4_isNumber 22 = .ok (.aload_n 0, 1) := by decide +kernel
theorem dX4_isNumber_23 : decode cX4_isNumber 23 = .ok (.getfield 114, 3) := by decide +kernel
theorem dX4_isNumber_26 : decode cX4_isNumber 26 = .ok (.iload_n 1, 1) := by decide +kernel
theorem dX4_isNumber_27 : decode cX4_isNumber 27 = .ok (.iload_n 2, 1) := by decide +kernel
theorem dX4_isNumber_28 : decode cX4_isNumber 28 = .ok (.invokestatic 183, 3) := by decide +kernel
theorem dX4_isNumber_31 : decode cX4_isNumber 31 = .ok (.iconst 4, 1) := by decide +kernel
theorem dX4_isNumber_32 : decode cX4_isNumber 32 = .ok (.invokevirtual 86, 3) := by decide +kernel
theorem dX4_isNumber_35 : decode cX4_isNumber 35 = .ok (.ifCond .eq 7, 3) := by decide +kernel
theorem dX4_isNumber_38 : decode cX4_isNumber 38 = .ok (.iconst 1, 1) := by decide +kernel
theorem dX4_isNumber_39 : decode cX4_isNumber 39 = .ok (.goto 4, 3) := by decide +kernel
theorem dX4_isNumber_42 : decode cX4_isNumber 42 = .ok (.iconst 0, 1) := by decide +kernel
theorem dX4_isNumber_43 : decode cX4_isNumber 43 = .ok (.ireturn, 1) := by decide +kernel
theorem dX4_takeNumber_0 : decode cX4_takeNumber 0 = .ok (.aload_n 0, 1) := by decide +kernel
theorem dX4_takeNumber_1 : decode cX4_takeNumber 1 = .ok (.iload_n 1, 1) := by decide +kernel
theorem dX4_takeNumber_2 : decode cX4_takeNumber 2 = .ok (.iload_n 2, 1) := by decide +kernel
theorem dX4_takeNumber_3 : decode cX4_takeNumber 3 = .ok (.invokevirtual 117, 3) := by decide +kernel
theorem dX4_takeNumber_6 : decode cX4_takeNumber 6 = .ok (.ifCond .eq 16, 3) := by decide +kernel
theorem dX4_takeNumber_9 : decode cX4_takeNumber 9 = .ok (.iload 4, 2) := by decide +kernel
theorem dX4_takeNumber_11 : decode cX4_takeNumber 11 = .ok (.iconst 0, 1) := by decide +kernel
theorem dX4_takeNumber_12 : decode cX4_takeNumber 12 = .ok (.aload_n 3, 1) := by decide +kernel
theorem dX4_takeNumber_13 : decode cX4_takeNumber 13 = .ok (.arraylength, 1) := by decide +kernel
theorem dX4_takeNumber_14 : decode cX4_takeNumber 14 = .ok (.iconst 1, 1) := by decide +kernel
theorem dX4_takeNumber_15 : decode cX4_takeNumber 15 = .ok (.isub, 1) := by decide +kernel
theorem dX4_takeNumber_16 : decode cX4_takeNumber 16 = .ok (.invokestatic 183, 3) := by decide +kernel
theorem dX4_takeNumber_19 : decode cX4_takeNumber 19 = .ok (.ifCond .ne 5, 3) := by decide +kernel
theorem dX4_takeNumber_22 : decode cX4_takeNumber 22 = .ok (.iconst 0, 1) := by decide +kernel
theorem dX4_takeNumber_23 : decode cX4_takeNumber 23 = .ok (.ireturn, 1) := by decide +kernel
theorem dX4_takeNumber_24 : decode cX4_takeNumber 24 = .ok (.aload_n 3, 1) := by decide +kernel
theorem dX4_takeNumber_25 : decode cX4_takeNumber 25 = .ok (.iload 4, 2) := by decide +kernel
theorem dX4_takeNumber_27 : decode cX4_takeNumber 27 = .ok (.aload_n 0, 1) := by decide +kernel
theorem dX4_takeNumber_28 : decode cX4_takeNumber 28 = .ok (.getfield 114, 3) := by decide +kernel
theorem dX4_takeNumber_31 : decode cX4_takeNumber 31 = .ok (.iastore, 1) := by decide +kernel
theorem dX4_takeNumber_32 : decode cX4_takeNumber 32 = .ok (.aload_n 0, 1) := by decide +kernel
theorem dX4_takeNumber_33 : decode cX4_takeNumber 33 = .ok (.invokevirtual 57, 3) := by decide +kernel
theorem dX4_takeNumber_36 : decode cX4_takeNumber 36 = .ok (.iconst 1, 1) := by decide +kernel
theorem dX4_takeNumber_37 : decode cX4_takeNumber 37 = .ok (.ireturn, 1) := by decide +kernel
theorem dX4_check_0 : decode cX4_check 0 = .ok (.iload_n 1, 1) := by decide +kernel
theorem dX4_check_1 : decode cX4_check 1 = .ok (.ifCond .ne 16, 3) := by decide +kernel
theorem dX4_check_4 : decode cX4_check 4 = .ok (.aload_n 0, 1) := by decide +kernel
theorem dX4_check_5 : decode cX4_check 5 = .ok (.iload_n 2, 1) := by decide +kernel
theorem dX4_check_6 : decode cX4_check 6 = .ok (.bipush 16, 2) := by decide +kernel
theorem dX4_check_8 : decode cX4_check 8 = .ok (.aload_n 0, 1) := by decide +kernel
theorem dX4_check_9 : decode cX4_check 9 = .ok (.getfield 187, 3) := by decide +kernel
theorem dX4_check_12 : decode cX4_check 12 = .ok (.imul, 1) := by decide +kernel
theorem dX4_check_13 : decode cX4_check 13 = .ok (.iadd, 1) := by decide +kernel
theorem dX4_check_14 : decode cX4_check 14 = .ok (.putfield 54, 3) := by decide +kernel
theorem dX4_check_17 : decode cX4_check 17 = .ok (.iload_n 1, 1) := by decide +kernel
theorem dX4_check_18 : decode cX4_check 18 = .ok (.ireturn, 1) := by decide +kernel
theorem dX4_advance_0 : decode cX4_advance 0 = .ok (.aload_n 0, 1) := by decide +kernel
theorem dX4_advance_1 : decode cX4_advance 1 = .ok (.getfield 50, 3) := by decide +kernel
theorem dX4_advance_4 : decode cX4_advance 4 = .ok (.aload_n 0, 1) := by decide +kernel
theorem dX4_advance_5 : decode cX4_advance 5 = .ok (.getfield 37, 3) := by decide +kernel
theorem dX4_advance_8 : decode cX4_advance 8 = .ok (.getfield 190, 3) := by decide +kernel
theorem dX4_advance_11 : decode cX4_advance 11 = .ok (.if_icmp .ge 50, 3) := by decide +kernel
theorem dX4_advance_14 : decode cX4_advance 14 = .ok (.aload_n 0, 1) := by decide +kernel
theorem dX4_advance_15 : decode cX4_advance 15 = .ok (.getfield 37, 3) := by decide +kernel
theorem dX4_advance_18 : decode cX4_advance 18 = .ok (.getfield 192, 3) := by decide +kernel
theorem dX4_advance_21 : decode cX4_advance 21 = .ok (.aload_n 0, 1) := by decide +kernel
theorem dX4_advance_22 : decode cX4_advance 22 = .ok (.getfield 50, 3) := by decide +kernel
theorem dX4_advance_25 : decode cX4_advance 25 = .ok (.baload, 1) := by decide +kernel
theorem dX4_advance_26 : decode cX4_advance 26 = .ok (.bipush 32, 2) := by decide +kernel
theorem dX4_advance_28 : decode cX4_advance 28 = .ok (.if_icmp .eq 20, 3) := by decide +kernel
theorem dX4_advance_31 : decode cX4_advance 31 = .ok (.aload_n 0, 1) := by decide +kernel
theorem dX4_advance_32 : decode cX4_advance 32 = .ok (.getfield 37, 3) := by decide +kernel
theorem dX4_advance_35 : decode cX4_advance 35 = .ok (.getfield 192, 3) := by decide +kernel
theorem dX4_advance_38 : decode cX4_advance 38 = .ok (.aload_n 0, 1) := by decide +kernel
theorem dX4_advance_39 : decode cX4_advance 39 = .ok (.getfield 50, 3) := by decide +kernel
theorem dX4_advance_42 : decode cX4_advance 42 = .ok (.baload, 1) := by decide +kernel
theorem dX4_advance_43 : decode cX4_advance 43 = .ok (.bipush 10, 2) := by decide +kernel
theorem dX4_advance_45 : decode cX4_advance 45 = .ok (.if_icmp .ne 16, 3) := by decide +kernel
theorem dX4_advance_48 : decode cX4_advance 48 = .ok (.aload_n 0, 1) := by decide +kernel
theorem dX4_advance_49 : decode cX4_advance 49 = .ok (.dup, 1) := by decide +kernel
theorem dX4_advance_50 : decode cX4_advance 50 = .ok (.getfield 50, 3) := by decide +kernel
theorem dX4_advance_53 : decode cX4_advance 53 = .ok (.iconst 1, 1) := by decide +kernel
theorem dX4_advance_54 : decode cX4_advance 54 = .ok (.iadd, 1) := by decide +kernel
theorem dX4_advance_55 : decode cX4_advance 55 = .ok (.putfield 50, 3) := by decide +kernel
theorem dX4_advance_58 : decode cX4_advance 58 = .ok (.goto (-58), 3) := by decide +kernel
theorem dX4_advance_61 : decode cX4_advance 61 = .ok (.aload_n 0, 1) := by decide +kernel
theorem dX4_advance_62 : decode cX4_advance 62 = .ok (.aload_n 0, 1) := by decide +kernel
theorem dX4_advance_63 : decode cX4_advance 63 = .ok (.getfield 50, 3) := by decide +kernel
theorem dX4_advance_66 : decode cX4_advance 66 = .ok (.putfield 187, 3) := by decide +kernel
theorem dX4_advance_69 : decode cX4_advance 69 = .ok (.aload_n 0, 1) := by decide +kernel
theorem dX4_advance_70 : decode cX4_advance 70 = .ok (.iconst 0, 1) := by decide +kernel
theorem dX4_advance_71 : decode cX4_advance 71 = .ok (.putfield 114, 3) := by decide +kernel
theorem dX4_advance_74 : decode cX4_advance 74 = .ok (.aload_n 0, 1) := by decide +kernel
theorem dX4_advance_75 : decode cX4_advance 75 = .ok (.lconst 0, 1) := by decide +kernel
theorem dX4_advance_76 : decode cX4_advance 76 = .ok (.putfield 165, 3) := by decide +kernel
theorem dX4_advance_79 : decode cX4_advance 79 = .ok (.aload_n 0, 1) := by decide +kernel
theorem dX4_advance_80 : decode cX4_advance 80 = .ok (.getfield 50, 3) := by decide +kernel
theorem dX4_advance_83 : decode cX4_advance 83 = .ok (.aload_n 0, 1) := by decide +kernel
theorem dX4_advance_84 : decode cX4_advance 84 = .ok (.getfield 37, 3) := by decide +kernel
theorem dX4_advance_87 : decode cX4_advance 87 = .ok (.getfield 190, 3) := by decide +kernel
theorem dX4_advance_90 : decode cX4_advance 90 = .ok (.if_icmp .lt 11, 3) := by decide +kernel
theorem dX4_advance_93 : decode cX4_advance 93 = .ok (.aload_n 0, 1) := by decide +kernel
theorem dX4_advance_94 : decode cX4_advance 94 = .ok (.iconst 0, 1) := by decide +kernel
theorem dX4_advance_95 : decode cX4_advance 95 = .ok (.putfield 62, 3) := by decide +kernel
theorem dX4_advance_98 : decode cX4_advance 98 = .ok (.goto 89, 3) := by decide +kernel
theorem dX4_advance_101 : decode cX4_advance 101 = .ok (.aload_n 0, 1) := by decide +kernel
theorem dX4_advance_102 : decode cX4_advance 102 = .ok (.getfield 37, 3) := by decide +kernel
theorem dX4_advance_105 : decode cX4_advance 105 = .ok (.getfield 192, 3) := by decide +kernel
theorem dX4_advance_108 : decode cX4_advance 108 = .ok (.aload_n 0, 1) := by decide +kernel
theorem dX4_advance_109 : decode cX4_advance 109 = .ok (.getfield 50, 3) := by decide +kernel
theorem dX4_advance_112 : decode cX4_advance 112 = .ok (.baload, 1) := by decide +kernel
theorem dX4_advance_113 : decode cX4_advance 113 = .ok (.invokestatic 196, 3) := by decide +kernel
theorem dX4_advance_116 : decode cX4_advance 116 = .ok (.ifCond .eq 10, 3) := by decide +kernel
theorem dX4_advance_119 : decode cX4_advance 119 = .ok (.aload_n 0, 1) := by decide +kernel
theorem dX4_advance_120 : decode cX4_advance 120 = .ok (.invokevirtual 199, 3) := by decide +kernel
theorem dX4_advance_123 : decode cX4_advance 123 = .ok (.goto 64, 3) := by decide +kernel
theorem dX4_advance_126 : decode cX4_advance 126 = .ok (.aload_n 0, 1) := by decide +kernel
theorem dX4_advance_127 : decode cX4_advance 127 = .ok (.getfield 37, 3) := by decide +kernel
theorem dX4_advance_130 : decode cX4_advance 130 = .ok (.getfield 192, 3) := by decide +kernel
theorem dX4_advance_133 : decode cX4_advance 133 = .ok (.aload_n 0, 1) := by decide +kernel
theorem dX4_advance_134 : decode cX4_advance 134 = .ok (.getfield 50, 3) := by decide +kernel
theorem dX4_advance_137 : decode cX4_advance 137 = .ok (.baload, 1) := by decide +kernel
theorem dX4_advance_138 : decode cX4_advance 138 = .ok (.invokestatic 202, 3) := by decide +kernel
theorem dX4_advance_141 : decode cX4_advance 141 = .ok (.ifCond .eq 10, 3) := by decide +kernel
theorem dX4_advance_144 : decode cX4_advance 144 = .ok (.aload_n 0, 1) := by decide +kernel
theorem dX4_advance_145 : decode cX4_advance 145 = .ok (.invokevirtual 205, 3) := by decide +kernel
theorem dX4_advance_148 : decode cX4_advance 148 = .ok (.goto 39, 3) := by decide +kernel
theorem dX4_advance_151 : decode cX4_advance 151 = .ok (.aload_n 0, 1) := by decide +kernel
theorem dX4_advance_152 : decode cX4_advance 152 = .ok (.aload_n 0, 1) := by decide +kernel
theorem dX4_advance_153 : decode cX4_advance 153 = .ok (.getfield 37, 3) := by decide +kernel
theorem dX4_advance_156 : decode cX4_advance 156 = .ok (.getfield 192, 3) := by decide +kernel
theorem dX4_advance_159 : decode cX4_advance 159 = .ok (.aload_n 0, 1) := by decide +kernel
theorem dX4_advance_160 : decode cX4_advance 160 = .ok (.getfield 50, 3) := by decide +kernel
theorem dX4_advance_163 : decode cX4_advance 163 = .ok (.baload, 1) := by decide +kernel
theorem dX4_advance_164 : decode cX4_advance 164 = .ok (.bipush 59, 2) := by decide +kernel
theorem dX4_advance_166 : decode cX4_advance 166 = .ok (.if_icmp .ne 7, 3) := by decide +kernel
theorem dX4_advance_169 : decode cX4_advance 169 = .ok (.iconst 2, 1) := by decide +kernel
theorem dX4_advance_170 : decode cX4_advance 170 = .ok (.goto 4, 3) := by decide +kernel
theorem dX4_advance_173 : decode cX4_advance 173 = .ok (.iconst 1, 1) := by decide +kernel
theorem dX4_advance_174 : decode cX4_advance 174 = .ok (.putfield 62, 3) := by decide +kernel
theorem dX4_advance_177 : decode cX4_advance 177 = .ok (.aload_n 0, 1) := by decide +kernel
theorem dX4_advance_178 : decode cX4_advance 178 = .ok (.dup, 1) := by decide +kernel
theorem dX4_advance_179 : decode cX4_advance 179 = .ok (.getfield 50, 3) := by decide +kernel
theorem dX4_advance_182 : decode cX4_advance 182 = .ok (.iconst 1, 1) := by decide +kernel
theorem dX4_advance_183 : decode cX4_advance 183 = .ok (.iadd, 1) := by decide +kernel
theorem dX4_advance_184 : decode cX4_advance 184 = .ok (.putfield 50, 3) := by decide +kernel
theorem dX4_advance_187 : decode cX4_advance 187 = .ok (.return_, 1) := by decide +kernel
theorem dX4_readWord_0 : decode cX4_readWord 0 = .ok (.aload_n 0, 1) := by decide +kernel
theorem dX4_readWord_1 : decode cX4_readWord 1 = .ok (.getfield 50, 3) := by decide +kernel
theorem dX4_readWord_4 : decode cX4_readWord 4 = .ok (.aload_n 0, 1) := by decide +kernel
theorem dX4_readWord_5 : decode cX4_readWord 5 = .ok (.getfield 37, 3) := by decide +kernel
theorem dX4_readWord_8 : decode cX4_readWord 8 = .ok (.getfield 190, 3) := by decide +kernel
theorem dX4_readWord_11 : decode cX4_readWord 11 = .ok (.if_icmp .ge 63, 3) := by decide +kernel
theorem dX4_readWord_14 : decode cX4_readWord 14 = .ok (.aload_n 0, 1) := by decide +kernel
theorem dX4_readWord_15 : decode cX4_readWord 15 = .ok (.getfield 37, 3) := by decide +kernel
theorem dX4_readWord_18 : decode cX4_readWord 18 = .ok (.getfield 192, 3) := by decide +kernel
theorem dX4_readWord_21 : decode cX4_readWord 21 = .ok (.aload_n 0, 1) := by decide +kernel
theorem dX4_readWord_22 : decode cX4_readWord 22 = .ok (.getfield 50, 3) := by decide +kernel
theorem dX4_readWord_25 : decode cX4_readWord 25 = .ok (.baload, 1) := by decide +kernel
theorem dX4_readWord_26 : decode cX4_readWord 26 = .ok (.invokestatic 196, 3) := by decide +kernel
theorem dX4_readWord_29 : decode cX4_readWord 29 = .ok (.ifCond .eq 45, 3) := by decide +kernel
theorem dX4_readWord_32 : decode cX4_readWord 32 = .ok (.aload_n 0, 1) := by decide +kernel
theorem dX4_readWord_33 : decode cX4_readWord 33 = .ok (.aload_n 0, 1) := by decide +kernel
theorem dX4_readWord_34 : decode cX4_readWord 34 = .ok (.getfield 165, 3) := by decide +kernel
theorem dX4_readWord_37 : decode cX4_readWord 37 = .ok (.ldc2_w 31, 3) := by decide +kernel
theorem dX4_readWord_40 : decode cX4_readWord 40 = .ok (.lmul, 1) := by decide +kernel
theorem dX4_readWord_41 : decode cX4_readWord 41 = .ok (.aload_n 0, 1) := by decide +kernel
theorem dX4_readWord_42 : decode cX4_readWord 42 = .ok (.getfield 37, 3) := by decide +kernel
theorem dX4_readWord_45 : decode cX4_readWord 45 = .ok (.getfield 192, 3) := by decide +kernel
theorem dX4_readWord_48 : decode cX4_readWord 48 = .ok (.aload_n 0, 1) := by decide +kernel
theorem dX4_readWord_49 : decode cX4_readWord 49 = .ok (.getfield 50, 3) := by decide +kernel
theorem dX4_readWord_52 : decode cX4_readWord 52 = .ok (.baload, 1) := by decide +kernel
theorem dX4_readWord_53 : decode cX4_readWord 53 = .ok (.invokestatic 33, 3) := by decide +kernel
theorem dX4_readWord_56 : decode cX4_readWord 56 = .ok (.i2l, 1) := by decide +kernel
theorem dX4_readWord_57 : decode cX4_readWord 57 = .ok (.ladd, 1) := by decide +kernel
theorem dX4_readWord_58 : decode cX4_readWord 58 = .ok (.putfield 165, 3) := by decide +kernel
theorem dX4_readWord_61 : decode cX4_readWord 61 = .ok (.aload_n 0, 1) := by decide +kernel
theorem dX4_readWord_62 : decode cX4_readWord 62 = .ok (.dup, 1) := by decide +kernel
theorem dX4_readWord_63 : decode cX4_readWord 63 = .ok (.getfield 50, 3) := by decide +kernel
theorem dX4_readWord_66 : decode cX4_readWord 66 = .ok (.iconst 1, 1) := by decide +kernel
theorem dX4_readWord_67 : decode cX4_readWord 67 = .ok (.iadd, 1) := by decide +kernel
theorem dX4_readWord_68 : decode cX4_readWord 68 = .ok (.putfield 50, 3) := by decide +kernel
theorem dX4_readWord_71 : decode cX4_readWord 71 = .ok (.goto (-71), 3) := by decide +kernel
theorem dX4_readWord_74 : decode cX4_readWord 74 = .ok (.aload_n 0, 1) := by decide +kernel
theorem dX4_readWord_75 : decode cX4_readWord 75 = .ok (.aload_n 0, 1) := by decide +kernel
theorem dX4_readWord_76 : decode cX4_readWord 76 = .ok (.getfield 50, 3) := by decide +kernel
theorem dX4_readWord_79 : decode cX4_readWord 79 = .ok (.aload_n 0, 1) := by decide +kernel
theorem dX4_readWord_80 : decode cX4_readWord 80 = .ok (.getfield 187, 3) := by decide +kernel
theorem dX4_readWord_83 : decode cX4_readWord 83 = .ok (.isub, 1) := by decide +kernel
theorem dX4_readWord_84 : decode cX4_readWord 84 = .ok (.bipush 8, 2) := by decide +kernel
theorem dX4_readWord_86 : decode cX4_readWord 86 = .ok (.if_icmp .le 7, 3) := by decide +kernel
theorem dX4_readWord_89 : decode cX4_readWord 89 = .ok (.iconst 1, 1) := by decide +kernel
theorem dX4_readWord_90 : decode cX4_readWord 90 = .ok (.goto 4, 3) := by decide +kernel
theorem dX4_readWord_93 : decode cX4_readWord 93 = .ok (.iconst 4, 1) := by decide +kernel
theorem dX4_readWord_94 : decode cX4_readWord 94 = .ok (.putfield 62, 3) := by decide +kernel
theorem dX4_readWord_97 : decode cX4_readWord 97 = .ok (.iconst 0, 1) := by decide +kernel
theorem dX4_readWord_98 : decode cX4_readWord 98 = .ok (.istore_n 1, 1) := by decide +kernel
theorem dX4_readWord_99 : decode cX4_readWord 99 = .ok (.iload_n 1, 1) := by decide +kernel
theorem dX4_readWord_100 : decode cX4_readWord 100 = .ok (.aload_n 0, 1) := by decide +kernel
theorem dX4_readWord_101 : decode cX4_readWord 101 = .ok (.getfield 11, 3) := by decide +kernel
theorem dX4_readWord_104 : decode cX4_readWord 104 = .ok (.arraylength, 1) := by decide +kernel
theorem dX4_readWord_105 : decode cX4_readWord 105 = .ok (.if_icmp .ge 38, 3) := by decide +kernel
theorem dX4_readWord_108 : decode cX4_readWord 108 = .ok (.aload_n 0, 1) := by decide +kernel
theorem dX4_readWord_109 : decode cX4_readWord 109 = .ok (.getfield 62, 3) := by decide +kernel
theorem dX4_readWord_112 : decode cX4_readWord 112 = .ok (.iconst 4, 1) := by decide +kernel
theorem dX4_readWord_113 : decode cX4_readWord 113 = .ok (.if_icmp .ne 30, 3) := by decide +kernel
theorem dX4_readWord_116 : decode cX4_readWord 116 = .ok (.aload_n 0, 1) := by decide +kernel
theorem dX4_readWord_117 : decode cX4_readWord 117 = .ok (.getfield 11, 3) := by decide +kernel
theorem dX4_readWord_120 : decode cX4_readWord 120 = .ok (.iload_n 1, 1) := by decide +kernel
theorem dX4_readWord_121 : decode cX4_readWord 121 = .ok (.laload, 1) := by decide +kernel
theorem dX4_readWord_122 : decode cX4_readWord 122 = .ok (.aload_n 0, 1) := by decide +kernel
theorem dX4_readWord_123 : decode cX4_readWord 123 = .ok (.getfield 165, 3) := by decide +kernel
theorem dX4_readWord_126 : decode cX4_readWord 126 = .ok (.lcmp, 1) := by decide +kernel
theorem dX4_readWord_127 : decode cX4_readWord 127 = .ok (.ifCond .ne 10, 3) := by decide +kernel
theorem dX4_readWord_130 : decode cX4_readWord 130 = .ok (.aload_n 0, 1) := by decide +kernel
theorem dX4_readWord_131 : decode cX4_readWord 131 = .ok (.iconst 5, 1) := by decide +kernel
theorem dX4_readWord_132 : decode cX4_readWord 132 = .ok (.iload_n 1, 1) := by decide +kernel
theorem dX4_readWord_133 : decode cX4_readWord 133 = .ok (.iadd, 1) := by decide +kernel
theorem dX4_readWord_134 : decode cX4_readWord 134 = .ok (.putfield 62, 3) := by decide +kernel
theorem dX4_readWord_137 : decode cX4_readWord 137 = .ok (.iinc 1 1, 3) := by decide +kernel
theorem dX4_readWord_140 : decode cX4_readWord 140 = .ok (.goto (-41), 3) := by decide +kernel
theorem dX4_readWord_143 : decode cX4_readWord 143 = .ok (.return_, 1) := by decide +kernel
theorem dX4_readNumber_0 : decode cX4_readNumber 0 = .ok (.aload_n 0, 1) := by decide +kernel
theorem dX4_readNumber_1 : decode cX4_readNumber 1 = .ok (.getfield 50, 3) := by decide +kernel
theorem dX4_readNumber_4 : decode cX4_readNumber 4 = .ok (.aload_n 0, 1) := by decide +kernel
theorem dX4_readNumber_5 : decode cX4_readNumber 5 = .ok (.getfield 37, 3) := by decide +kernel
theorem dX4_readNumber_8 : decode cX4_readNumber 8 = .ok (.getfield 190, 3) := by decide +kernel
theorem dX4_readNumber_11 : decode cX4_readNumber 11 = .ok (.if_icmp .ge 61, 3) := by decide +kernel
theorem dX4_readNumber_14 : decode cX4_readNumber 14 = .ok (.aload_n 0, 1) := by decide +kernel
theorem dX4_readNumber_15 : decode cX4_readNumber 15 = .ok (.getfield 37, 3) := by decide +kernel
theorem dX4_readNumber_18 : decode cX4_readNumber 18 = .ok (.getfield 192, 3) := by decide +kernel
theorem dX4_readNumber_21 : decode cX4_readNumber 21 = .ok (.aload_n 0, 1) := by decide +kernel
theorem dX4_readNumber_22 : decode cX4_readNumber 22 = .ok (.getfield 50, 3) := by decide +kernel
theorem dX4_readNumber_25 : decode cX4_readNumber 25 = .ok (.baload, 1) := by decide +kernel
theorem dX4_readNumber_26 : decode cX4_readNumber 26 = .ok (.invokestatic 202, 3) := by decide +kernel
theorem dX4_readNumber_29 : decode cX4_readNumber 29 = .ok (.ifCond .eq 43, 3) := by decide +kernel
theorem dX4_readNumber_32 : decode cX4_readNumber 32 = .ok (.aload_n 0, 1) := by decide +kernel
theorem dX4_readNumber_33 : decode cX4_readNumber 33 = .ok (.aload_n 0, 1) := by decide +kernel
theorem dX4_readNumber_34 : decode cX4_readNumber 34 = .ok (.getfield 114, 3) := by decide +kernel
theorem dX4_readNumber_37 : decode cX4_readNumber 37 = .ok (.bipush 10, 2) := by decide +kernel
theorem dX4_readNumber_39 : decode cX4_readNumber 39 = .ok (.imul, 1) := by decide +kernel
theorem dX4_readNumber_40 : decode cX4_readNumber 40 = .ok (.aload_n 0, 1) := by decide +kernel
theorem dX4_readNumber_41 : decode cX4_readNumber 41 = .ok (.getfield 37, 3) := by decide +kernel
theorem dX4_readNumber_44 : decode cX4_readNumber 44 = .ok (.getfield 192, 3) := by decide +kernel
theorem dX4_readNumber_47 : decode cX4_readNumber 47 = .ok (.aload_n 0, 1) := by decide +kernel
theorem dX4_readNumber_48 : decode cX4_readNumber 48 = .ok (.getfield 50, 3) := by decide +kernel
theorem dX4_readNumber_51 : decode cX4_readNumber 51 = .ok (.baload, 1) := by decide +kernel
theorem dX4_readNumber_52 : decode cX4_readNumber 52 = .ok (.iadd, 1) := by decide +kernel
theorem dX4_readNumber_53 : decode cX4_readNumber 53 = .ok (.bipush 48, 2) := by decide +kernel
theorem dX4_readNumber_55 : decode cX4_readNumber 55 = .ok (.isub, 1) := by decide +kernel
theorem dX4_readNumber_56 : decode cX4_readNumber 56 = .ok (.putfield 114, 3) := by decide +kernel
theorem dX4_readNumber_59 : decode cX4_readNumber 59 = .ok (.aload_n 0, 1) := by decide +kernel
theorem dX4_readNumber_60 : decode cX4_readNumber 60 = .ok (.dup, 1) := by decide +kernel
theorem dX4_readNumber_61 : decode cX4_readNumber 61 = .ok (.getfield 50, 3) := by decide +kernel
theorem dX4_readNumber_64 : decode cX4_readNumber 64 = .ok (.iconst 1, 1) := by decide +kernel
theorem dX4_readNumber_65 : decode cX4_readNumber 65 = .ok (.iadd, 1) := by decide +kernel
theorem dX4_readNumber_66 : decode cX4_readNumber 66 = .ok (.putfield 50, 3) := by decide +kernel
theorem dX4_readNumber_69 : decode cX4_readNumber 69 = .ok (.goto (-69), 3) := by decide +kernel
theorem dX4_readNumber_72 : decode cX4_readNumber 72 = .ok (.aload_n 0, 1) := by decide +kernel
theorem dX4_readNumber_73 : decode cX4_readNumber 73 = .ok (.aload_n 0, 1) := by decide +kernel
theorem dX4_readNumber_74 : decode cX4_readNumber 74 = .ok (.getfield 50, 3) := by decide +kernel
theorem dX4_readNumber_77 : decode cX4_readNumber 77 = .ok (.aload_n 0, 1) := by decide +kernel
theorem dX4_readNumber_78 : decode cX4_readNumber 78 = .ok (.getfield 187, 3) := by decide +kernel
theorem dX4_readNumber_81 : decode cX4_readNumber 81 = .ok (.isub, 1) := by decide +kernel
theorem dX4_readNumber_82 : decode cX4_readNumber 82 = .ok (.iconst 4, 1) := by decide +kernel
theorem dX4_readNumber_83 : decode cX4_readNumber 83 = .ok (.if_icmp .le 7, 3) := by decide +kernel
theorem dX4_readNumber_86 : decode cX4_readNumber 86 = .ok (.iconst 1, 1) := by decide +kernel
theorem dX4_readNumber_87 : decode cX4_readNumber 87 = .ok (.goto 4, 3) := by decide +kernel
theorem dX4_readNumber_90 : decode cX4_readNumber 90 = .ok (.iconst 3, 1) := by decide +kernel
theorem dX4_readNumber_91 : decode cX4_readNumber 91 = .ok (.putfield 62, 3) := by decide +kernel
theorem dX4_readNumber_94 : decode cX4_readNumber 94 = .ok (.return_, 1) := by decide +kernel
theorem dX4_letterNumber_0 : decode cX4_letterNumber 0 = .ok (.iload_n 0, 1) := by decide +kernel
theorem dX4_letterNumber_1 : decode cX4_letterNumber 1 = .ok (.bipush 97, 2) := by decide +kernel
theorem dX4_letterNumber_3 : decode cX4_letterNumber 3 = .ok (.isub, 1) := by decide +kernel
theorem dX4_letterNumber_4 : decode cX4_letterNumber 4 = .ok (.iconst 1, 1) := by decide +kernel
theorem dX4_letterNumber_5 : decode cX4_letterNumber 5 = .ok (.iadd, 1) := by decide +kernel
theorem dX4_letterNumber_6 : decode cX4_letterNumber 6 = .ok (.ireturn, 1) := by decide +kernel
theorem dX4_isLetter_0 : decode cX4_isLetter 0 = .ok (.iload_n 0, 1) := by decide +kernel
theorem dX4_isLetter_1 : decode cX4_isLetter 1 = .ok (.bipush 97, 2) := by decide +kernel
theorem dX4_isLetter_3 : decode cX4_isLetter 3 = .ok (.if_icmp .lt 13, 3) := by decide +kernel
theorem dX4_isLetter_6 : decode cX4_isLetter 6 = .ok (.iload_n 0, 1) := by decide +kernel
theorem dX4_isLetter_7 : decode cX4_isLetter 7 = .ok (.bipush 122, 2) := by decide +kernel
theorem dX4_isLetter_9 : decode cX4_isLetter 9 = .ok (.if_icmp .gt 7, 3) := by decide +kernel
theorem dX4_isLetter_12 : decode cX4_isLetter 12 = .ok (.iconst 1, 1) := by decide +kernel
theorem dX4_isLetter_13 : decode cX4_isLetter 13 = .ok (.goto 4, 3) := by decide +kernel
theorem dX4_isLetter_16 : decode cX4_isLetter 16 = .ok (.iconst 0, 1) := by decide +kernel
theorem dX4_isLetter_17 : decode cX4_isLetter 17 = .ok (.ireturn, 1) := by decide +kernel
theorem dX4_isDigit_0 : decode cX4_isDigit 0 = .ok (.iload_n 0, 1) := by decide +kernel
theorem dX4_isDigit_1 : decode cX4_isDigit 1 = .ok (.bipush 48, 2) := by decide +kernel
theorem dX4_isDigit_3 : decode cX4_isDigit 3 = .ok (.if_icmp .lt 13, 3) := by decide +kernel
theorem dX4_isDigit_6 : decode cX4_isDigit 6 = .ok (.iload_n 0, 1) := by decide +kernel
theorem dX4_isDigit_7 : decode cX4_isDigit 7 = .ok (.bipush 57, 2) := by decide +kernel
theorem dX4_isDigit_9 : decode cX4_isDigit 9 = .ok (.if_icmp .gt 7, 3) := by decide +kernel
theorem dX4_isDigit_12 : decode cX4_isDigit 12 = .ok (.iconst 1, 1) := by decide +kernel
theorem dX4_isDigit_13 : decode cX4_isDigit 13 = .ok (.goto 4, 3) := by decide +kernel
theorem dX4_isDigit_16 : decode cX4_isDigit 16 = .ok (.iconst 0, 1) := by decide +kernel
theorem dX4_isDigit_17 : decode cX4_isDigit 17 = .ok (.ireturn, 1) := by decide +kernel
theorem dX7_init_0 : decode cX7_init 0 = .ok (.aload_n 0, 1) := by decide +kernel
theorem dX7_init_1 : decode cX7_init 1 = .ok (.invokespecial 5, 3) := by decide +kernel
theorem dX7_init_4 : decode cX7_init 4 = .ok (.aload_n 0, 1) := by decide +kernel
theorem dX7_init_5 : decode cX7_init 5 = .ok (.bipush 24, 2) := by decide +kernel
theorem dX7_init_7 : decode cX7_init 7 = .ok (.newarray .int, 2) := by decide +kernel
theorem dX7_init_9 : decode cX7_init 9 = .ok (.putfield 13, 3) := by decide +kernel
theorem dX7_init_12 : decode cX7_init 12 = .ok (.aload_n 0, 1) := by decide +kernel
theorem dX7_init_13 : decode cX7_init 13 = .ok (.bipush 24, 2) := by decide +kernel
theorem dX7_init_15 : decode cX7_init 15 = .ok (.newarray .int, 2) := by decide +kernel
theorem dX7_init_17 : decode cX7_init 17 = .ok (.putfield 17, 3) := by decide +kernel
theorem dX7_init_20 : decode cX7_init 20 = .ok (.aload_n 0, 1) := by decide +kernel
theorem dX7_init_21 : decode cX7_init 21 = .ok (.bipush 24, 2) := by decide +kernel
theorem dX7_init_23 : decode cX7_init 23 = .ok (.newarray .int, 2) := by decide +kernel
theorem dX7_init_25 : decode cX7_init 25 = .ok (.putfield 20, 3) := by decide +kernel
theorem dX7_init_28 : decode cX7_init 28 = .ok (.aload_n 0, 1) := by decide +kernel
theorem dX7_init_29 : decode cX7_init 29 = .ok (.bipush 64, 2) := by decide +kernel
theorem dX7_init_31 : decode cX7_init 31 = .ok (.newarray .long, 2) := by decide +kernel
theorem dX7_init_33 : decode cX7_init 33 = .ok (.putfield 23, 3) := by decide +kernel
theorem dX7_init_36 : decode cX7_init 36 = .ok (.aload_n 0, 1) := by decide +kernel
theorem dX7_init_37 : decode cX7_init 37 = .ok (.bipush 12, 2) := by decide +kernel
theorem dX7_init_39 : decode cX7_init 39 = .ok (.newarray .int, 2) := by decide +kernel
theorem dX7_init_41 : decode cX7_init 41 = .ok (.putfield 27, 3) := by decide +kernel
theorem dX7_init_44 : decode cX7_init 44 = .ok (.return_, 1) := by decide +kernel
theorem dX7_forget_0 : decode cX7_forget 0 = .ok (.aload_n 0, 1) := by decide +kernel
theorem dX7_forget_1 : decode cX7_forget 1 = .ok (.iconst 0, 1) := by decide +kernel
theorem dX7_forget_2 : decode cX7_forget 2 = .ok (.putfield 30, 3) := by decide +kernel
theorem dX7_forget_5 : decode cX7_forget 5 = .ok (.return_, 1) := by decide +kernel
theorem dX7_prepare_0 : decode cX7_prepare 0 = .ok (.aload_n 0, 1) := by decide +kernel
theorem dX7_prepare_1 : decode cX7_prepare 1 = .ok (.getfield 30, 3) := by decide +kernel
theorem dX7_prepare_4 : decode cX7_prepare 4 = .ok (.ifCond .eq 4, 3) := by decide +kernel
theorem dX7_prepare_7 : decode cX7_prepare 7 = .ok (.return_, 1) := by decide +kernel
theorem dX7_prepare_8 : decode cX7_prepare 8 = .ok (.aload_n 0, 1) := by decide +kernel
theorem dX7_prepare_9 : decode cX7_prepare 9 = .ok (.iconst 1, 1) := by decide +kernel
theorem dX7_prepare_10 : decode cX7_prepare 10 = .ok (.putfield 30, 3) := by decide +kernel
theorem dX7_prepare_13 : decode cX7_prepare 13 = .ok (.aload_n 0, 1) := by decide +kernel
theorem dX7_prepare_14 : decode cX7_prepare 14 = .ok (.aload_n 1, 1) := by decide +kernel
theorem dX7_prepare_15 : decode cX7_prepare 15 = .ok (.getfield 34, 3) := by decide +kernel
theorem dX7_prepare_18 : decode cX7_prepare 18 = .ok (.putfield 38, 3) := by decide +kernel
theorem dX7_prepare_21 : decode cX7_prepare 21 = .ok (.aload_n 0, 1) := by decide +kernel
theorem dX7_prepare_22 : decode cX7_prepare 22 = .ok (.iconst 0, 1) := by decide +kernel
theorem dX7_prepare_23 : decode cX7_prepare 23 = .ok (.putfield 41, 3) := by decide +kernel
theorem dX7_prepare_26 : decode cX7_prepare 26 = .ok (.aload_n 0, 1) := by decide +kernel
theorem dX7_prepare_27 : decode cX7_prepare 27 = .ok (.bipush (-2), 2) := by decide +kernel
theorem dX7_prepare_29 : decode cX7_prepare 29 = .ok (.putfield 44, 3) := by decide +kernel
theorem dX7_prepare_32 : decode cX7_prepare 32 = .ok (.aload_n 0, 1) := by decide +kernel
theorem dX7_prepare_33 : decode cX7_prepare 33 = .ok (.getfield 20, 3) := by decide +kernel
theorem dX7_prepare_36 : decode cX7_prepare 36 = .ok (.iconst 0, 1) := by decide +kernel
theorem dX7_prepare_37 : decode cX7_prepare 37 = .ok (.invokestatic 47, 3) := by decide +kernel
theorem dX7_prepare_40 : decode cX7_prepare 40 = .ok (.aload_n 0, 1) := by decide +kernel
theorem dX7_prepare_41 : decode cX7_prepare 41 = .ok (.getfield 23, 3) := by decide +kernel
theorem dX7_prepare_44 : decode cX7_prepare 44 = .ok (.lconst 0, 1) := by decide +kernel
theorem dX7_prepare_45 : decode cX7_prepare 45 = .ok (.invokestatic 53, 3) := by decide +kernel
theorem dX7_prepare_48 : decode cX7_prepare 48 = .ok (.aload_n 0, 1) := by decide +kernel
theorem dX7_prepare_49 : decode cX7_prepare 49 = .ok (.aload_n 1, 1) := by decide +kernel
theorem dX7_prepare_50 : decode cX7_prepare 50 = .ok (.invokevirtual 56, 3) := by decide +kernel
theorem dX7_prepare_53 : decode cX7_prepare 53 = .ok (.aload_n 0, 1) := by decide +kernel
theorem dX7_prepare_54 : decode cX7_prepare 54 = .ok (.aload_n 1, 1) := by decide +kernel
theorem dX7_prepare_55 : decode cX7_prepare 55 = .ok (.invokevirtual 60, 3) := by decide +kernel
theorem dX7_prepare_58 : decode cX7_prepare 58 = .ok (.aload_n 0, 1) := by decide +kernel
theorem dX7_prepare_59 : decode cX7_prepare 59 = .ok (.invokevirtual 63, 3) := by decide +kernel
theorem dX7_prepare_62 : decode cX7_prepare 62 = .ok (.return_, 1) := by decide +kernel
theorem dX7_momentIn_0 : decode cX7_momentIn 0 = .ok (.aload_n 0, 1) := by decide +kernel
theorem dX7_momentIn_1 : decode cX7_momentIn 1 = .ok (.iload_n 1, 1) := by decide +kernel
theorem dX7_momentIn_2 : decode cX7_momentIn 2 = .ok (.invokevirtual 66, 3) := by decide +kernel
theorem dX7_momentIn_5 : decode cX7_momentIn 5 = .ok (.istore_n 3, 1) := by decide +kernel
theorem dX7_momentIn_6 : decode cX7_momentIn 6 = .ok (.aload_n 0, 1) := by decide +kernel
theorem dX7_momentIn_7 : decode cX7_momentIn 7 = .ok (.getfield 13, 3) := by decide +kernel
theorem dX7_momentIn_10 : decode cX7_momentIn 10 = .ok (.iload_n 3, 1) := by decide +kernel
theorem dX7_momentIn_11 : decode cX7_momentIn 11 = .ok (.iload_n 2, 1) := by decide +kernel
theorem dX7_momentIn_12 : decode cX7_momentIn 12 = .ok (.aload_n 0, 1) := by decide +kernel
theorem dX7_momentIn_13 : decode cX7_momentIn 13 = .ok (.getfield 38, 3) := by decide +kernel
theorem dX7_momentIn_16 : decode cX7_momentIn 16 = .ok (.iconst 1, 1) := by decide +kernel
theorem dX7_momentIn_17 : decode cX7_momentIn 17 = .ok (.isub, 1) := by decide +kernel
theorem dX7_momentIn_18 : decode cX7_momentIn 18 = .ok (.iload_n 2, 1) := by decide +kernel
theorem dX7_momentIn_19 : decode cX7_momentIn 19 = .ok (.isub, 1) := by decide +kernel
theorem dX7_momentIn_20 : decode cX7_momentIn 20 = .ok (.invokestatic 70, 3) := by decide +kernel
theorem dX7_momentIn_23 : decode cX7_momentIn 23 = .ok (.iaload, 1) := by decide +kernel
theorem dX7_momentIn_24 : decode cX7_momentIn 24 = .ok (.ireturn, 1) := by decide +kernel
theorem dX7_sureMoment_0 : decode cX7_sureMoment 0 = .ok (.aload_n 0, 1) := by decide +kernel
theorem dX7_sureMoment_1 : decode cX7_sureMoment 1 = .ok (.getfield 20, 3) := by decide +kernel
theorem dX7_sureMoment_4 : decode cX7_sureMoment 4 = .ok (.iconst 2, 1) := by decide +kernel
theorem dX7_sureMoment_5 : decode cX7_sureMoment 5 = .ok (.iload_n 1, 1) := by decide +kernel
theorem dX7_sureMoment_6 : decode cX7_sureMoment 6 = .ok (.imul, 1) := by decide +kernel
theorem dX7_sureMoment_7 : decode cX7_sureMoment 7 = .ok (.iaload, 1) := by decide +kernel
theorem dX7_sureMoment_8 : decode cX7_sureMoment 8 = .ok (.ifCond .eq 7, 3) := by decide +kernel
theorem dX7_sureMoment_11 : decode cX7_sureMoment 11 = .ok (.iconst 1, 1) := by decide +kernel
theorem dX7_sureMoment_12 : decode cX7_sureMoment 12 = .ok (.goto 4, 3) := by decide +kernel
theorem dX7_sureMoment_15 : decode cX7_sureMoment 15 = .ok (.iconst 0, 1) := by decide +kernel
theorem dX7_sureMoment_16 : decode cX7_sureMoment 16 = .ok (.istore_n 2, 1) := by decide +kernel
theorem dX7_sureMoment_17 : decode cX7_sureMoment 17 = .ok (.aload_n 0, 1) := by decide +kernel
theorem dX7_sureMoment_18 : decode cX7_sureMoment 18 = .ok (.getfield 20, 3) := by decide +kernel
theorem dX7_sureMoment_21 : decode cX7_sureMoment 21 = .ok (.iconst 2, 1) := by decide +kernel
theorem dX7_sureMoment_22 : decode cX7_sureMoment 22 = .ok (.iload_n 1, 1) := by decide +kernel
theorem dX7_sureMoment_23 : decode cX7_sureMoment 23 = .ok (.imul, 1) := by decide +kernel
theorem dX7_sureMoment_24 : decode cX7_sureMoment 24 = .ok (.iconst 1, 1) := by decide +kernel
theorem dX7_sureMoment_25 : decode cX7_sureMoment 25 = .ok (.iadd, 1) := by decide +kernel
theorem dX7_sureMoment_26 : decode cX7_sureMoment 26 = .ok (.iaload, 1) := by decide +kernel
theorem dX7_sureMoment_27 : decode cX7_sureMoment 27 = .ok (.ifCond .eq 7, 3) := by decide +kernel
theorem dX7_sureMoment_30 : decode cX7_sureMoment 30 = .ok (.iconst 1, 1) := by decide +kernel
theorem dX7_sureMoment_31 : decode cX7_sureMoment 31 = .ok (.goto 4, 3) := by decide +kernel
theorem dX7_sureMoment_34 : decode cX7_sureMoment 34 = .ok (.iconst 0, 1) := by decide +kernel
theorem dX7_sureMoment_35 : decode cX7_sureMoment 35 = .ok (.istore_n 3, 1) := by decide +kernel
theorem dX7_sureMoment_36 : decode cX7_sureMoment 36 = .ok (.iload_n 2, 1) := by decide +kernel
theorem dX7_sureMoment_37 : decode cX7_sureMoment 37 = .ok (.iload_n 3, 1) := by decide +kernel
theorem dX7_sureMoment_38 : decode cX7_sureMoment 38 = .ok (.if_icmp .ne 5, 3) := by decide +kernel
theorem dX7_sureMoment_41 : decode cX7_sureMoment 41 = .ok (.iconst (-1), 1) := by decide +kernel
theorem dX7_sureMoment_42 : decode cX7_sureMoment 42 = .ok (.ireturn, 1) := by decide +kernel
theorem dX7_sureMoment_43 : decode cX7_sureMoment 43 = .ok (.aload_n 0, 1) := by decide +kernel
theorem dX7_sureMoment_44 : decode cX7_sureMoment 44 = .ok (.getfield 13, 3) := by decide +kernel
theorem dX7_sureMoment_47 : decode cX7_sureMoment 47 = .ok (.iload_n 2, 1) := by decide +kernel
theorem dX7_sureMoment_48 : decode cX7_sureMoment 48 = .ok (.ifCond .eq 9, 3) := by decide +kernel
theorem dX7_sureMoment_51 : decode cX7_sureMoment 51 = .ok (.iconst 2, 1) := by decide +kernel
theorem dX7_sureMoment_52 : decode cX7_sureMoment 52 = .ok (.iload_n 1, 1) := by decide +kernel
theorem dX7_sureMoment_53 : decode cX7_sureMoment 53 = .ok (.imul, 1) := by decide +kernel
theorem dX7_sureMoment_54 : decode cX7_sureMoment 54 = .ok (.goto 8, 3) := by decide +kernel
theorem dX7_sureMoment_57 : decode cX7_sureMoment 57 = .ok (.iconst 2, 1) := by decide +kernel
theorem dX7_sureMoment_58 : decode cX7_sureMoment 58 = .ok (.iload_n 1, 1) := by decide +kernel
theorem dX7_sureMoment_59 : decode cX7_sureMoment 59 = .ok (.imul, 1) := by decide +kernel
theorem dX7_sureMoment_60 : decode cX7_sureMoment 60 = .ok (.iconst 1, 1) := by decide +kernel
theorem dX7_sureMoment_61 : decode cX7_sureMoment 61 = .ok (.iadd, 1) := by decide +kernel
theorem dX7_sureMoment_62 : decode cX7_sureMoment 62 = .ok (.iaload, 1) := by decide +kernel
theorem dX7_sureMoment_63 : decode cX7_sureMoment 63 = .ok (.ireturn, 1) := by decide +kernel
theorem dX7_unsure_0 : decode cX7_unsure 0 = .ok (.iconst 0, 1) := by decide +kernel
theorem dX7_unsure_1 : decode cX7_unsure 1 = .ok (.istore_n 1, 1) := by decide +kernel
theorem dX7_unsure_2 : decode cX7_unsure 2 = .ok (.iconst 0, 1) := by decide +kernel
theorem dX7_unsure_3 : decode cX7_unsure 3 = .ok (.istore_n 2, 1) := by decide +kernel
theorem dX7_unsure_4 : decode cX7_unsure 4 = .ok (.iload_n 2, 1) := by decide +kernel
theorem dX7_unsure_5 : decode cX7_unsure 5 = .ok (.aload_n 0, 1) := by decide +kernel
theorem dX7_unsure_6 : decode cX7_unsure 6 = .ok (.getfield 38, 3) := by decide +kernel
theorem dX7_unsure_9 : decode cX7_unsure 9 = .ok (.if_icmp .ge 24, 3) := by decide +kernel
theorem dX7_unsure_12 : decode cX7_unsure 12 = .ok (.aload_n 0, 1) := by decide +kernel
theorem dX7_unsure_13 : decode cX7_unsure 13 = .ok (.iload_n 2, 1) := by decide +kernel
theorem dX7_unsure_14 : decode cX7_unsure 14 = .ok (.invokevirtual 74, 3) := by decide +kernel
theorem dX7_unsure_17 : decode cX7_unsure 17 = .ok (.iconst (-1), 1) := by decide +kernel
theorem dX7_unsure_18 : decode cX7_unsure 18 = .ok (.if_icmp .ne 9, 3) := by decide +kernel
theorem dX7_unsure_21 : decode cX7_unsure 21 = .ok (.iload_n 1, 1) := by decide +kernel
theorem dX7_unsure_22 : decode cX7_unsure 22 = .ok (.iconst 1, 1) := by decide +kernel
theorem dX7_unsure_23 : decode cX7_unsure 23 = .ok (.iload_n 2, 1) := by decide +kernel
theorem dX7_unsure_24 : decode cX7_unsure 24 = .ok (.ishl, 1) := by decide +kernel
theorem dX7_unsure_25 : decode cX7_unsure 25 = .ok (.ior, 1) := by decide +kernel
theorem dX7_unsure_26 : decode cX7_unsure 26 = .ok (.istore_n 1, 1) := by decide +kernel
theorem dX7_unsure_27 : decode cX7_unsure 27 = .ok (.iinc 2 1, 3) := by decide +kernel
theorem dX7_unsure_30 : decode cX7_unsure 30 = .ok (.goto (-26), 3) := by decide +kernel
theorem dX7_unsure_33 : decode cX7_unsure 33 = .ok (.iload_n 1, 1) := by decide +kernel
theorem dX7_unsure_34 : decode cX7_unsure 34 = .ok (.ireturn, 1) := by decide +kernel
theorem dX7_canBe_0 : decode cX7_canBe 0 = .ok (.iconst 0, 1) := by decide +kernel
theorem dX7_canBe_1 : decode cX7_canBe 1 = .ok (.istore_n 3, 1) := by decide +kernel
theorem dX7_canBe_2 : decode cX7_canBe 2 = .ok (.iconst 2, 1) := by decide +kernel
theorem dX7_canBe_3 : decode cX7_canBe 3 = .ok (.iload_n 1, 1) := by decide +kernel
theorem dX7_canBe_4 : decode cX7_canBe 4 = .ok (.imul, 1) := by decide +kernel
theorem dX7_canBe_5 : decode cX7_canBe 5 = .ok (.istore 4, 2) := by decide +kernel
theorem dX7_canBe_7 : decode cX7_canBe 7 = .ok (.iload 4, 2) := by decide +kernel
theorem dX7_canBe_9 : decode cX7_canBe 9 = .ok (.iconst 2, 1) := by decide +kernel
theorem dX7_canBe_10 : decode cX7_canBe 10 = .ok (.iload_n 1, 1) := by decide +kernel
theorem dX7_canBe_11 : decode cX7_canBe 11 = .ok (.imul, 1) := by decide +kernel
theorem dX7_canBe_12 : decode cX7_canBe 12 = .ok (.iconst 1, 1) := by decide +kernel
theorem dX7_canBe_13 : decode cX7_canBe 13 = .ok (.iadd, 1) := by decide +kernel
theorem dX7_canBe_14 : decode cX7_canBe 14 = .ok (.if_icmp .gt 66, 3) := by decide +kernel
theorem dX7_canBe_17 : decode cX7_canBe 17 = .ok (.iconst 2, 1) := by decide +kernel
theorem dX7_canBe_18 : decode cX7_canBe 18 = .ok (.iload_n 2, 1) := by decide +kernel
theorem dX7_canBe_19 : decode cX7_canBe 19 = .ok (.imul, 1) := by decide +kernel
theorem dX7_canBe_20 : decode cX7_canBe 20 = .ok (.istore 5, 2) := by decide +kernel
theorem dX7_canBe_22 : decode cX7_canBe 22 = .ok (.iload 5, 2) := by decide +kernel
theorem dX7_canBe_24 : decode cX7_canBe 24 = .ok (.iconst 2, 1) := by decide +kernel
theorem dX7_canBe_25 : decode cX7_canBe 25 = .ok (.iload_n 2, 1) := by decide +kernel
theorem dX7_canBe_26 : decode cX7_canBe 26 = .ok (.imul, 1) := by decide +kernel
theorem dX7_canBe_27 : decode cX7_canBe 27 = .ok (.iconst 1, 1) := by decide +kernel
theorem dX7_canBe_28 : decode cX7_canBe 28 = .ok (.iadd, 1) := by decide +kernel
theorem dX7_canBe_29 : decode cX7_canBe 29 = .ok (.if_icmp .gt 45, 3) := by decide +kernel
theorem dX7_canBe_32 : decode cX7_canBe 32 = .ok (.aload_n 0, 1) := by decide +kernel
theorem dX7_canBe_33 : decode cX7_canBe 33 = .ok (.getfield 20, 3) := by decide +kernel
theorem dX7_canBe_36 : decode cX7_canBe 36 = .ok (.iload 4, 2) := by decide +kernel
theorem dX7_canBe_38 : decode cX7_canBe 38 = .ok (.iaload, 1) := by decide +kernel
theorem dX7_canBe_39 : decode cX7_canBe 39 = .ok (.iload 5, 2) := by decide +kernel
theorem dX7_canBe_41 : decode cX7_canBe 41 = .ok (.ishr, 1) := by decide +kernel
theorem dX7_canBe_42 : decode cX7_canBe 42 = .ok (.iconst 1, 1) := by decide +kernel
theorem dX7_canBe_43 : decode cX7_canBe 43 = .ok (.iand, 1) := by decide +kernel
theorem dX7_canBe_44 : decode cX7_canBe 44 = .ok (.iconst 1, 1) := by decide +kernel
theorem dX7_canBe_45 : decode cX7_canBe 45 = .ok (.if_icmp .ne 23, 3) := by decide +kernel
theorem dX7_canBe_48 : decode cX7_canBe 48 = .ok (.iload_n 3, 1) := by decide +kernel
theorem dX7_canBe_49 : decode cX7_canBe 49 = .ok (.aload_n 0, 1) := by decide +kernel
theorem dX7_canBe_50 : decode cX7_canBe 50 = .ok (.getfield 13, 3) := by decide +kernel
theorem dX7_canBe_53 : decode cX7_canBe 53 = .ok (.iload 4, 2) := by decide +kernel
theorem dX7_canBe_55 : decode cX7_canBe 55 = .ok (.iaload, 1) := by decide +kernel
theorem dX7_canBe_56 : decode cX7_canBe 56 = .ok (.aload_n 0, 1) := by decide +kernel
theorem dX7_canBe_57 : decode cX7_canBe 57 = .ok (.getfield 13, 3) := by decide +kernel
theorem dX7_canBe_60 : decode cX7_canBe 60 = .ok (.iload 5, 2) := by decide +kernel
theorem dX7_canBe_62 : decode cX7_canBe 62 = .ok (.iaload, 1) := by decide +kernel
theorem dX7_canBe_63 : decode cX7_canBe 63 = .ok (.invokestatic 77, 3) := by decide +kernel
theorem dX7_canBe_66 : decode cX7_canBe 66 = .ok (.ior, 1) := by decide +kernel
theorem dX7_canBe_67 : decode cX7_canBe 67 = .ok (.istore_n 3, 1) := by decide +kernel
theorem dX7_canBe_68 : decode cX7_canBe 68 = .ok (.iinc 5 1, 3) := by decide +kernel
theorem dX7_canBe_71 : decode cX7_canBe 71 = .ok (.goto (-49), 3) := by decide +kernel
theorem dX7_canBe_74 : decode cX7_canBe 74 = .ok (.iinc 4 1, 3) := by decide +kernel
theorem dX7_canBe_77 : decode cX7_canBe 77 = .ok (.goto (-70), 3) := by decide +kernel
theorem dX7_canBe_80 : decode cX7_canBe 80 = .ok (.iload_n 3, 1) := by decide +kernel
theorem dX7_canBe_81 : decode cX7_canBe 81 = .ok (.ireturn, 1) := by decide +kernel
theorem dX7_relation_0 : decode cX7_relation 0 = .ok (.iload_n 0, 1) := by decide +kernel
theorem dX7_relation_1 : decode cX7_relation 1 = .ok (.iload_n 1, 1) := by decide +kernel
theorem dX7_relation_2 : decode cX7_relation 2 = .ok (.if_icmp .ne 5, 3) := by decide +kernel
theorem dX7_relation_5 : decode cX7_relation 5 = .ok (.iconst 2, 1) := by decide +kernel
theorem dX7_relation_6 : decode cX7_relation 6 = .ok (.ireturn, 1) := by decide +kernel
theorem dX7_relation_7 : decode cX7_relation 7 = .ok (.iload_n 0, 1) := by decide +kernel
theorem dX7_relation_8 : decode cX7_relation 8 = .ok (.iload_n 1, 1) := by decide +kernel
theorem dX7_relation_9 : decode cX7_relation 9 = .ok (.if_icmp .ge 7, 3) := by decide +kernel
theorem dX7_relation_12 : decode cX7_relation 12 = .ok (.iconst 1, 1) := by decide +kernel
theorem dX7_relation_13 : decode cX7_relation 13 = .ok (.goto 4, 3) := by decide +kernel
theorem dX7_relation_16 : decode cX7_relation 16 = .ok (.iconst 4, 1) := by decide +kernel
theorem dX7_relation_17 : decode cX7_relation 17 = .ok (.ireturn, 1) := by decide +kernel
theorem dX7_fewestApart_0 : decode cX7_fewestApart 0 = .ok (.aload_n 0, 1) := by decide +kernel
theorem dX7_fewestApart_1 : decode cX7_fewestApart 1 = .ok (.getfield 44, 3) := by decide +kernel
theorem dX7_fewestApart_4 : decode cX7_fewestApart 4 = .ok (.bipush (-2), 2) := by decide +kernel
theorem dX7_fewestApart_6 : decode cX7_fewestApart 6 = .ok (.if_icmp .ne 11, 3) := by decide +kernel
theorem dX7_fewestApart_9 : decode cX7_fewestApart 9 = .ok (.aload_n 0, 1) := by decide +kernel
theorem dX7_fewestApart_10 : decode cX7_fewestApart 10 = .ok (.aload_n 0, 1) := by decide +kernel
theorem dX7_fewestApart_11 : decode cX7_fewestApart 11 = .ok (.invokevirtual 81, 3) := by decide +kernel
theorem dX7_fewestApart_14 : decode cX7_fewestApart 14 = .ok (.putfield 44, 3) := by decide +kernel
theorem dX7_fewestApart_17 : decode cX7_fewestApart 17 = .ok (.aload_n 0, 1) := by decide +kernel
theorem dX7_fewestApart_18 : decode cX7_fewestApart 18 = .ok (.getfield 44, 3) := by decide +kernel
theorem dX7_fewestApart_21 : decode cX7_fewestApart 21 = .ok (.ireturn, 1) := by decide +kernel
theorem dX7_seekApart_0 : decode cX7_seekApart 0 = .ok (.iconst 1, 1) := by decide +kernel
theorem dX7_seekApart_1 : decode cX7_seekApart 1 = .ok (.istore_n 1, 1) := by decide +kernel
theorem dX7_seekApart_2 : decode cX7_seekApart 2 = .ok (.iload_n 1, 1) := by decide +kernel
theorem dX7_seekApart_3 : decode cX7_seekApart 3 = .ok (.aload_n 0, 1) := by decide +kernel
theorem dX7_seekApart_4 : decode cX7_seekApart 4 = .ok (.getfield 38, 3) := by decide +kernel
theorem dX7_seekApart_7 : decode cX7_seekApart 7 = .ok (.if_icmp .gt 45, 3) := by decide +kernel
theorem dX7_seekApart_10 : decode cX7_seekApart 10 = .ok (.iconst 1, 1) := by decide +kernel
theorem dX7_seekApart_11 : decode cX7_seekApart 11 = .ok (.istore_n 2, 1) := by decide +kernel
theorem dX7_seekApart_12 : decode cX7_seekApart 12 = .ok (.iload_n 2, 1) := by decide +kernel
theorem dX7_seekApart_13 : decode cX7_seekApart 13 = .ok (.iconst 1, 1) := by decide +kernel
theorem dX7_seekApart_14 : decode cX7_seekApart 14 = .ok (.aload_n 0, 1) := by decide +kernel
theorem dX7_seekApart_15 : decode cX7_seekApart 15 = .ok (.getfield 38, 3) := by decide +kernel
theorem dX7_seekApart_18 : decode cX7_seekApart 18 = .ok (.ishl, 1) := by decide +kernel
theorem dX7_seekApart_19 : decode cX7_seekApart 19 = .ok (.if_icmp .ge 27, 3) := by decide +kernel
theorem dX7_seekApart_22 : decode cX7_seekApart 22 = .ok (.iload_n 2, 1) := by decide +kernel
theorem dX7_seekApart_23 : decode cX7_seekApart 23 = .ok (.invokestatic 85, 3) := by decide +kernel
theorem dX7_seekApart_26 : decode cX7_seekApart 26 = .ok (.iload_n 1, 1) := by decide +kernel
theorem dX7_seekApart_27 : decode cX7_seekApart 27 = .ok (.if_icmp .ne 13, 3) := by decide +kernel
theorem dX7_seekApart_30 : decode cX7_seekApart 30 = .ok (.aload_n 0, 1) := by decide +kernel
theorem dX7_seekApart_31 : decode cX7_seekApart 31 = .ok (.iload_n 2, 1) := by decide +kernel
theorem dX7_seekApart_32 : decode cX7_seekApart 32 = .ok (.invokevirtual 90, 3) := by decide +kernel
theorem dX7_seekApart_35 : decode cX7_seekApart 35 = .ok (.ifCond .ne 5, 3) := by decide +kernel
theorem dX7_seekApart_38 : decode cX7_seekApart 38 = .ok (.iload_n 2, 1) := by decide +kernel
theorem dX7_seekApart_39 : decode cX7_seekApart 39 = .ok (.ireturn, 1) := by decide +kernel
theorem dX7_seekApart_40 : decode cX7_seekApart 40 = .ok (.iinc 2 1, 3) := by decide +kernel
theorem dX7_seekApart_43 : decode cX7_seekApart 43 = .ok (.goto (-31), 3) := by decide +kernel
theorem dX7_seekApart_46 : decode cX7_seekApart 46 = .ok (.iinc 1 1, 3) := by decide +kernel
theorem dX7_seekApart_49 : decode cX7_seekApart 49 = .ok (.goto (-47), 3) := by decide +kernel
theorem dX7_seekApart_52 : decode cX7_seekApart 52 = .ok (.iconst (-1), 1) := by decide +kernel
theorem dX7_seekApart_53 : decode cX7_seekApart 53 = .ok (.ireturn, 1) := by decide +kernel
theorem dX7_layMoments_0 : decode cX7_layMoments 0 = .ok (.iconst 0, 1) := by decide +kernel
theorem dX7_layMoments_1 : decode cX7_layMoments 1 = .ok (.istore_n 2, 1) := by decide +kernel
theorem dX7_layMoments_2 : decode cX7_layMoments 2 = .ok (.iload_n 2, 1) := by decide +kernel
theorem dX7_layMoments_3 : decode cX7_layMoments 3 = .ok (.aload_n 0, 1) := by decide +kernel
theorem dX7_layMoments_4 : decode cX7_layMoments 4 = .ok (.getfield 38, 3) := by decide +kernel
theorem dX7_layMoments_7 : decode cX7_layMoments 7 = .ok (.if_icmp .ge 150, 3) := by decide +kernel
theorem dX7_layMoments_10 : decode cX7_layMoments 10 = .ok (.iload_n 2, 1) := by decide +kernel
theorem dX7_layMoments_11 : decode cX7_layMoments 11 = .ok (.iconst 4, 1) := by decide +kernel
theorem dX7_layMoments_12 : decode cX7_layMoments 12 = .ok (.imul, 1) := by decide +kernel
theorem dX7_layMoments_13 : decode cX7_layMoments 13 = .ok (.istore_n 3, 1) := by decide +kernel
theorem dX7_layMoments_14 : decode cX7_layMoments 14 = .ok (.aload_n 1, 1) := by decide +kernel
theorem dX7_layMoments_15 : decode cX7_layMoments 15 = .ok (.getfield 94, 3) := by decide +kernel
theorem dX7_layMoments_18 : decode cX7_layMoments 18 = .ok (.aload_n 1, 1) := by decide +kernel
theorem dX7_layMoments_19 : decode cX7_layMoments 19 = .ok (.getfield 98, 3) := by decide +kernel
theorem dX7_layMoments_22 : decode cX7_layMoments 22 = .ok (.iload_n 3, 1) := by decide +kernel
theorem dX7_layMoments_23 : decode cX7_layMoments 23 = .ok (.iaload, 1) := by decide +kernel
theorem dX7_layMoments_24 : decode cX7_layMoments 24 = .ok (.aaload, 1) := by decide +kernel
theorem dX7_layMoments_25 : decode cX7_layMoments 25 = .ok (.astore 4, 2) := by decide +kernel
theorem dX7_layMoments_27 : decode cX7_layMoments 27 = .ok (.aload_n 1, 1) := by decide +kernel
theorem dX7_layMoments_28 : decode cX7_layMoments 28 = .ok (.getfield 98, 3) := by decide +kernel
theorem dX7_layMoments_31 : decode cX7_layMoments 31 = .ok (.iload_n 3, 1) := by decide +kernel
theorem dX7_layMoments_32 : decode cX7_layMoments 32 = .ok (.iconst 1, 1) := by decide +kernel
theorem dX7_layMoments_33 : decode cX7_layMoments 33 = .ok (.iadd, 1) := by decide +kernel
theorem dX7_layMoments_34 : decode cX7_layMoments 34 = .ok (.iaload, 1) := by decide +kernel
theorem dX7_layMoments_35 : decode cX7_layMoments 35 = .ok (.sipush 1440, 3) := by decide +kernel
theorem dX7_layMoments_38 : decode cX7_layMoments 38 = .ok (.imul, 1) := by decide +kernel
theorem dX7_layMoments_39 : decode cX7_layMoments 39 = .ok (.aload_n 1, 1) := by decide +kernel
theorem dX7_layMoments_40 : decode cX7_layMoments 40 = .ok (.getfield 98, 3) := by decide +kernel
theorem dX7_layMoments_43 : decode cX7_layMoments 43 = .ok (.iload_n 3, 1) := by decide +kernel
theorem dX7_layMoments_44 : decode cX7_layMoments 44 = .ok (.iconst 2, 1) := by decide +kernel
theorem dX7_layMoments_45 : decode cX7_layMoments 45 = .ok (.iadd, 1) := by decide +kernel
theorem dX7_layMoments_46 : decode cX7_layMoments 46 = .ok (.iaload, 1) := by decide +kernel
theorem dX7_layMoments_47 : decode cX7_layMoments 47 = .ok (.iadd, 1) := by decide +kernel
theorem dX7_layMoments_48 : decode cX7_layMoments 48 = .ok (.istore 5, 2) := by decide +kernel
theorem dX7_layMoments_50 : decode cX7_layMoments 50 = .ok (.aload_n 1, 1) := by decide +kernel
theorem dX7_layMoments_51 : decode cX7_layMoments 51 = .ok (.getfield 98, 3) := by decide +kernel
theorem dX7_layMoments_54 : decode cX7_layMoments 54 = .ok (.iload_n 3, 1) := by decide +kernel
theorem dX7_layMoments_55 : decode cX7_layMoments 55 = .ok (.iconst 3, 1) := by decide +kernel
theorem dX7_layMoments_56 : decode cX7_layMoments 56 = .ok (.iadd, 1) := by decide +kernel
theorem dX7_layMoments_57 : decode cX7_layMoments 57 = .ok (.iaload, 1) := by decide +kernel
theorem dX7_layMoments_58 : decode cX7_layMoments 58 = .ok (.istore 6, 2) := by decide +kernel
theorem dX7_layMoments_60 : decode cX7_layMoments 60 = .ok (.iconst 2, 1) := by decide +kernel
theorem dX7_layMoments_61 : decode cX7_layMoments 61 = .ok (.iload_n 2, 1) := by decide +kernel
theorem dX7_layMoments_62 : decode cX7_layMoments 62 = .ok (.imul, 1) := by decide +kernel
theorem dX7_layMoments_63 : decode cX7_layMoments 63 = .ok (.istore 7, 2) := by decide +kernel
theorem dX7_layMoments_65 : decode cX7_layMoments 65 = .ok (.aload_n 0, 1) := by decide +kernel
theorem dX7_layMoments_66 : decode cX7_layMoments 66 = .ok (.getfield 13, 3) := by decide +kernel
theorem dX7_layMoments_69 : decode cX7_layMoments 69 = .ok (.iload 7, 2) := by decide +kernel
theorem dX7_layMoments_71 : decode cX7_layMoments 71 = .ok (.aload 4, 2) := by decide +kernel
theorem dX7_layMoments_73 : decode cX7_layMoments 73 = .ok (.iload 5, 2) := by decide +kernel
theorem dX7_layMoments_75 : decode cX7_layMoments 75 = .ok (.invokevirtual 100, 3) := by decide +kernel
theorem dX7_layMoments_78 : decode cX7_layMoments 78 = .ok (.iastore, 1) := by decide +kernel
theorem dX7_layMoments_79 : decode cX7_layMoments 79 = .ok (.aload_n 0, 1) := by decide +kernel
theorem dX7_layMoments_80 : decode cX7_layMoments 80 = .ok (.getfield 13, 3) := by decide +kernel
theorem dX7_layMoments_83 : decode cX7_layMoments 83 = .ok (.iload 7, 2) := by decide +kernel
theorem dX7_layMoments_85 : decode cX7_layMoments 85 = .ok (.iconst 1, 1) := by decide +kernel
theorem dX7_layMoments_86 : decode cX7_layMoments 86 = .ok (.iadd, 1) := by decide +kernel
theorem dX7_layMoments_87 : decode cX7_layMoments 87 = .ok (.aload 4, 2) := by decide +kernel
theorem dX7_layMoments_89 : decode cX7_layMoments 89 = .ok (.iload 5, 2) := by decide +kernel
theorem dX7_layMoments_91 : decode cX7_layMoments 91 = .ok (.invokevirtual 105, 3) := by decide +kernel
theorem dX7_layMoments_94 : decode cX7_layMoments 94 = .ok (.iastore, 1) := by decide +kernel
theorem dX7_layMoments_95 : decode cX7_layMoments 95 = .ok (.aload_n 0, 1) := by decide +kernel
theorem dX7_layMoments_96 : decode cX7_layMoments 96 = .ok (.getfield 17, 3) := by decide +kernel
theorem dX7_layMoments_99 : decode cX7_layMoments 99 = .ok (.iload 7, 2) := by decide +kernel
theorem dX7_layMoments_101 : decode cX7_layMoments 101 = .ok (.iload 6, 2) := by decide +kernel
theorem dX7_layMoments_103 : decode cX7_layMoments 103 = .ok (.iconst 2, 1) := by decide +kernel
theorem dX7_layMoments_104 : decode cX7_layMoments 104 = .ok (.if_icmp .ne 10, 3) := by decide +kernel
theorem dX7_layMoments_107 : decode cX7_layMoments 107 = .ok (.iconst 1, 1) := by decide +kernel
theorem dX7_layMoments_108 : decode cX7_layMoments 108 = .ok (.iload 7, 2) := by decide +kernel
theorem dX7_layMoments_110 : decode cX7_layMoments 110 = .ok (.ishl, 1) := by decide +kernel
theorem dX7_layMoments_111 : decode cX7_layMoments 111 = .ok (.goto 4, 3) := by decide +kernel
theorem dX7_layMoments_114 : decode cX7_layMoments 114 = .ok (.iconst 0, 1) := by decide +kernel
theorem dX7_layMoments_115 : decode cX7_layMoments 115 = .ok (.iastore, 1) := by decide +kernel
theorem dX7_layMoments_116 : decode cX7_layMoments 116 = .ok (.aload_n 0, 1) := by decide +kernel
theorem dX7_layMoments_117 : decode cX7_layMoments 117 = .ok (.getfield 17, 3) := by decide +kernel
theorem dX7_layMoments_120 : decode cX7_layMoments 120 = .ok (.iload 7, 2) := by decide +kernel
theorem dX7_layMoments_122 : decode cX7_layMoments 122 = .ok (.iconst 1, 1) := by decide +kernel
theorem dX7_layMoments_123 : decode cX7_layMoments 123 = .ok (.iadd, 1) := by decide +kernel
theorem dX7_layMoments_124 : decode cX7_layMoments 124 = .ok (.iload 6, 2) := by decide +kernel
theorem dX7_layMoments_126 : decode cX7_layMoments 126 = .ok (.iconst 1, 1) := by decide +kernel
theorem dX7_layMoments_127 : decode cX7_layMoments 127 = .ok (.if_icmp .eq 13, 3) := by decide +kernel
theorem dX7_layMoments_130 : decode cX7_layMoments 130 = .ok (.aload 4, 2) := by decide +kernel
theorem dX7_layMoments_132 : decode cX7_layMoments 132 = .ok (.iload 5, 2) := by decide +kernel
theorem dX7_layMoments_134 : decode cX7_layMoments 134 = .ok (.invokevirtual 108, 3) := by decide +kernel
theorem dX7_layMoments_137 : decode cX7_layMoments 137 = .ok (.ifCond .ne 12, 3) := by decide +kernel
theorem dX7_layMoments_140 : decode cX7_layMoments 140 = .ok (.iconst 1, 1) := by decide +kernel
theorem dX7_layMoments_141 : decode cX7_layMoments 141 = .ok (.iload 7, 2) := by decide +kernel
theorem dX7_layMoments_143 : decode cX7_layMoments 143 = .ok (.iconst 1, 1) := by decide +kernel
theorem dX7_layMoments_144 : decode cX7_layMoments 144 = .ok (.iadd, 1) := by decide +kernel
theorem dX7_layMoments_145 : decode cX7_layMoments 145 = .ok (.ishl, 1) := by decide +kernel
theorem dX7_layMoments_146 : decode cX7_layMoments 146 = .ok (.goto 4, 3) := by decide +kernel
theorem dX7_layMoments_149 : decode cX7_layMoments 149 = .ok (.iconst 0, 1) := by decide +kernel
theorem dX7_layMoments_150 : decode cX7_layMoments 150 = .ok (.iastore, 1) := by decide +kernel
theorem dX7_layMoments_151 : decode cX7_layMoments 151 = .ok (.iinc 2 1, 3) := by decide +kernel
theorem dX7_layMoments_154 : decode cX7_layMoments 154 = .ok (.goto (-152), 3) := by decide +kernel
theorem dX7_layMoments_157 : decode cX7_layMoments 157 = .ok (.return_, 1) := by decide +kernel
theorem dX7_layClashes_0 : decode cX7_layClashes 0 = .ok (.iconst 0, 1) := by decide +kernel
theorem dX7_layClashes_1 : decode cX7_layClashes 1 = .ok (.istore_n 2, 1) := by decide +kernel
theorem dX7_layClashes_2 : decode cX7_layClashes 2 = .ok (.iload_n 2, 1) := by decide +kernel
theorem dX7_layClashes_3 : decode cX7_layClashes 3 = .ok (.aload_n 1, 1) := by decide +kernel
theorem dX7_layClashes_4 : decode cX7_layClashes 4 = .ok (.getfield 111, 3) := by decide +kernel
theorem dX7_layClashes_7 : decode cX7_layClashes 7 = .ok (.if_icmp .ge 172, 3) := by decide +kernel
theorem dX7_layClashes_10 : decode cX7_layClashes 10 = .ok (.iload_n 2, 1) := by decide +kernel
theorem dX7_layClashes_11 : decode cX7_layClashes 11 = .ok (.iconst 4, 1) := by decide +kernel
theorem dX7_layClashes_12 : decode cX7_layClashes 12 = .ok (.imul, 1) := by decide +kernel
theorem dX7_layClashes_13 : decode cX7_layClashes 13 = .ok (.istore_n 3, 1) := by decide +kernel
theorem dX7_layClashes_14 : decode cX7_layClashes 14 = .ok (.iconst 2, 1) := by decide +kernel
theorem dX7_layClashes_15 : decode cX7_layClashes 15 = .ok (.aload_n 1, 1) := by decide +kernel
theorem dX7_layClashes_16 : decode cX7_layClashes 16 = .ok (.getfield 114, 3) := by decide +kernel
theorem dX7_layClashes_19 : decode cX7_layClashes 19 = .ok (.iload_n 3, 1) := by decide +kernel
theorem dX7_layClashes_20 : decode cX7_layClashes 20 = .ok (.iconst 1, 1) := by decide +kernel
theorem dX7_layClashes_21 : decode cX7_layClashes 21 = .ok (.iadd, 1) := by decide +kernel
theorem dX7_layClashes_22 : decode cX7_layClashes 22 = .ok (.iaload, 1) := by decide +kernel
theorem dX7_layClashes_23 : decode cX7_layClashes 23 = .ok (.imul, 1) := by decide +kernel
theorem dX7_layClashes_24 : decode cX7_layClashes 24 = .ok (.istore 4, 2) := by decide +kernel
theorem dX7_layClashes_26 : decode cX7_layClashes 26 = .ok (.iconst 2, 1) := by decide +kernel
theorem dX7_layClashes_27 : decode cX7_layClashes 27 = .ok (.aload_n 1, 1) := by decide +kernel
theorem dX7_layClashes_28 : decode cX7_layClashes 28 = .ok (.getfield 114, 3) := by decide +kernel
theorem dX7_layClashes_31 : decode cX7_layClashes 31 = .ok (.iload_n 3, 1) := by decide +kernel
theorem dX7_layClashes_32 : decode cX7_layClashes 32 = .ok (.iconst 2, 1) := by decide +kernel
theorem dX7_layClashes_33 : decode cX7_layClashes 33 = .ok (.iadd, 1) := by decide +kernel
theorem dX7_layClashes_34 : decode cX7_layClashes 34 = .ok (.iaload, 1) := by decide +kernel
theorem dX7_layClashes_35 : decode cX7_layClashes 35 = .ok (.imul, 1) := by decide +kernel
theorem dX7_layClashes_36 : decode cX7_layClashes 36 = .ok (.istore 5, 2) := by decide +kernel
theorem dX7_layClashes_38 : decode cX7_layClashes 38 = .ok (.iconst 0, 1) := by decide +kernel
theorem dX7_layClashes_39 : decode cX7_layClashes 39 = .ok (.istore 6, 2) := by decide +kernel
theorem dX7_layClashes_41 : decode cX7_layClashes 41 = .ok (.iload 6, 2) := by decide +kernel
theorem dX7_layClashes_43 : decode cX7_layClashes 43 = .ok (.iconst 4, 1) := by decide +kernel
theorem dX7_layClashes_44 : decode cX7_layClashes 44 = .ok (.if_icmp .ge 129, 3) := by decide +kernel
theorem dX7_layClashes_47 : decode cX7_layClashes 47 = .ok (.iload 4, 2) := by decide +kernel
theorem dX7_layClashes_49 : decode cX7_layClashes 49 = .ok (.iload 6, 2) := by decide +kernel
theorem dX7_layClashes_51 : decode cX7_layClashes 51 = .ok (.iconst 1, 1) := by decide +kernel
theorem dX7_layClashes_52 : decode cX7_layClashes 52 = .ok (.iand, 1) := by decide +kernel
theorem dX7_layClashes_53 : decode cX7_layClashes 53 = .ok (.iadd, 1) := by decide +kernel
theorem dX7_layClashes_54 : decode cX7_layClashes 54 = .ok (.istore 7, 2) := by decide +kernel
theorem dX7_layClashes_56 : decode cX7_layClashes 56 = .ok (.iload 5, 2) := by decide +kernel
theorem dX7_layClashes_58 : decode cX7_layClashes 58 = .ok (.iload 6, 2) := by decide +kernel
theorem dX7_layClashes_60 : decode cX7_layClashes 60 = .ok (.iconst 1, 1) := by decide +kernel
theorem dX7_layClashes_61 : decode cX7_layClashes 61 = .ok (.ishr, 1) := by decide +kernel
theorem dX7_layClashes_62 : decode cX7_layClashes 62 = .ok (.iadd, 1) := by decide +kernel
theorem dX7_layClashes_63 : decode cX7_layClashes 63 = .ok (.istore 8, 2) := by decide +kernel
theorem dX7_layClashes_65 : decode cX7_layClashes 65 = .ok (.aload_n 0, 1) := by decide +kernel
theorem dX7_layClashes_66 : decode cX7_layClashes 66 = .ok (.getfield 13, 3) := by decide +kernel
theorem dX7_layClashes_69 : decode cX7_layClashes 69 = .ok (.iload 7, 2) := by decide +kernel
theorem dX7_layClashes_71 : decode cX7_layClashes 71 = .ok (.iaload, 1) := by decide +kernel
theorem dX7_layClashes_72 : decode cX7_layClashes 72 = .ok (.aload_n 0, 1) := by decide +kernel
theorem dX7_layClashes_73 : decode cX7_layClashes 73 = .ok (.getfield 13, 3) := by decide +kernel
theorem dX7_layClashes_76 : decode cX7_layClashes 76 = .ok (.iload 8, 2) := by decide +kernel
theorem dX7_layClashes_78 : decode cX7_layClashes 78 = .ok (.iaload, 1) := by decide +kernel
theorem dX7_layClashes_79 : decode cX7_layClashes 79 = .ok (.isub, 1) := by decide +kernel
theorem dX7_layClashes_80 : decode cX7_layClashes 80 = .ok (.istore 9, 2) := by decide +kernel
theorem dX7_layClashes_82 : decode cX7_layClashes 82 = .ok (.aload_n 1, 1) := by decide +kernel
theorem dX7_layClashes_83 : decode cX7_layClashes 83 = .ok (.getfield 114, 3) := by decide +kernel
theorem dX7_layClashes_86 : decode cX7_layClashes 86 = .ok (.iload_n 3, 1) := by decide +kernel
theorem dX7_layClashes_87 : decode cX7_layClashes 87 = .ok (.iconst 3, 1) := by decide +kernel
theorem dX7_layClashes_88 : decode cX7_layClashes 88 = .ok (.iadd, 1) := by decide +kernel
theorem dX7_layClashes_89 : decode cX7_layClashes 89 = .ok (.iaload, 1) := by decide +kernel
theorem dX7_layClashes_90 : decode cX7_layClashes 90 = .ok (.istore 10, 2) := by decide +kernel
theorem dX7_layClashes_92 : decode cX7_layClashes 92 = .ok (.aload_n 1, 1) := by decide +kernel
theorem dX7_layClashes_93 : decode cX7_layClashes 93 = .ok (.getfield 114, 3) := by decide +kernel
theorem dX7_layClashes_96 : decode cX7_layClashes 96 = .ok (.iload_n 3, 1) := by decide +kernel
theorem dX7_layClashes_97 : decode cX7_layClashes 97 = .ok (.iaload, 1) := by decide +kernel
theorem dX7_layClashes_98 : decode cX7_layClashes 98 = .ok (.iconst 1, 1) := by decide +kernel
theorem dX7_layClashes_99 : decode cX7_layClashes 99 = .ok (.if_icmp .ne 21, 3) := by decide +kernel
theorem dX7_layClashes_102 : decode cX7_layClashes 102 = .ok (.iload 9, 2) := by decide +kernel
theorem dX7_layClashes_104 : decode cX7_layClashes 104 = .ok (.invokestatic 117, 3) := by decide +kernel
theorem dX7_layClashes_107 : decode cX7_layClashes 107 = .ok (.iload 10, 2) := by decide +kernel
theorem dX7_layClashes_109 : decode cX7_layClashes 109 = .ok (.if_icmp .gt 7, 3) := by decide +kernel
theorem dX7_layClashes_112 : decode cX7_layClashes 112 = .ok (.iconst 1, 1) := by decide +kernel
theorem dX7_layClashes_113 : decode cX7_layClashes 113 = .ok (.goto 19, 3) := by decide +kernel
theorem dX7_layClashes_116 : decode cX7_layClashes 116 = .ok (.iconst 0, 1) := by decide +kernel
theorem dX7_layClashes_117 : decode cX7_layClashes 117 = .ok (.goto 15, 3) := by decide +kernel
theorem dX7_layClashes_120 : decode cX7_layClashes 120 = .ok (.iload 9, 2) := by decide +kernel
theorem dX7_layClashes_122 : decode cX7_layClashes 122 = .ok (.iload 10, 2) := by decide +kernel
theorem dX7_layClashes_124 : decode cX7_layClashes 124 = .ok (.if_icmp .lt 7, 3) := by decide +kernel
theorem dX7_layClashes_127 : decode cX7_layClashes 127 = .ok (.iconst 1, 1) := by decide +kernel
theorem dX7_layClashes_128 : decode cX7_layClashes 128 = .ok (.goto 4, 3) := by decide +kernel
theorem dX7_layClashes_131 : decode cX7_layClashes 131 = .ok (.iconst 0, 1) := by decide +kernel
theorem dX7_layClashes_132 : decode cX7_layClashes 132 = .ok (.istore 11, 2) := by decide +kernel
theorem dX7_layClashes_134 : decode cX7_layClashes 134 = .ok (.iload 11, 2) := by decide +kernel
theorem dX7_layClashes_136 : decode cX7_layClashes 136 = .ok (.ifCond .ne 31, 3) := by decide +kernel
theorem dX7_layClashes_139 : decode cX7_layClashes 139 = .ok (.aload_n 0, 1) := by decide +kernel
theorem dX7_layClashes_140 : decode cX7_layClashes 140 = .ok (.getfield 17, 3) := by decide +kernel
theorem dX7_layClashes_143 : decode cX7_layClashes 143 = .ok (.iload 7, 2) := by decide +kernel
theorem dX7_layClashes_145 : decode cX7_layClashes 145 = .ok (.dup2, 1) := by decide +kernel
theorem dX7_layClashes_146 : decode cX7_layClashes 146 = .ok (.iaload, 1) := by decide +kernel
theorem dX7_layClashes_147 : decode cX7_layClashes 147 = .ok (.iconst 1, 1) := by decide +kernel
theorem dX7_layClashes_148 : decode cX7_layClashes 148 = .ok (.iload 8, 2) := by decide +kernel
theorem dX7_layClashes_150 : decode cX7_layClashes 150 = .ok (.ishl, 1) := by decide +kernel
theorem dX7_layClashes_151 : decode cX7_layClashes 151 = .ok (.ior, 1) := by decide +kernel
theorem dX7_layClashes_152 : decode cX7_layClashes 152 = .ok (.iastore, 1) := by decide +kernel
theorem dX7_layClashes_153 : decode cX7_layClashes 153 = .ok (.aload_n 0, 1) := by decide +kernel
theorem dX7_layClashes_154 : decode cX7_layClashes 154 = .ok (.getfield 17, 3) := by decide +kernel
theorem dX7_layClashes_157 : decode cX7_layClashes 157 = .ok (.iload 8, 2) := by decide +kernel
theorem dX7_layClashes_159 : decode cX7_layClashes 159 = .ok (.dup2, 1) := by decide +kernel
theorem dX7_layClashes_160 : decode cX7_layClashes 160 = .ok (.iaload, 1) := by decide +kernel
theorem dX7_layClashes_161 : decode cX7_layClashes 161 = .ok (.iconst 1, 1) := by decide +kernel
theorem dX7_layClashes_162 : decode cX7_layClashes 162 = .ok (.iload 7, 2) := by decide +kernel
theorem dX7_layClashes_164 : decode cX7_layClashes 164 = .ok (.ishl, 1) := by decide +kernel
theorem dX7_layClashes_165 : decode cX7_layClashes 165 = .ok (.ior, 1) := by decide +kernel
theorem dX7_layClashes_166 : decode cX7_layClashes 166 = .ok (.iastore, 1) := by decide +kernel
theorem dX7_layClashes_167 : decode cX7_layClashes 167 = .ok (.iinc 6 1, 3) := by decide +kernel
theorem dX7_layClashes_170 : decode cX7_layClashes 170 = .ok (.goto (-129), 3) := by decide +kernel
theorem dX7_layClashes_173 : decode cX7_layClashes 173 = .ok (.iinc 2 1, 3) := by decide +kernel
theorem dX7_layClashes_176 : decode cX7_layClashes 176 = .ok (.goto (-174), 3) := by decide +kernel
theorem dX7_layClashes_179 : decode cX7_layClashes 179 = .ok (.return_, 1) := by decide +kernel
theorem dX7_findAll_0 : decode cX7_findAll 0 = .ok (.aload_n 0, 1) := by decide +kernel
theorem dX7_findAll_1 : decode cX7_findAll 1 = .ok (.iconst 1, 1) := by decide +kernel
theorem dX7_findAll_2 : decode cX7_findAll 2 = .ok (.aload_n 0, 1) := by decide +kernel
theorem dX7_findAll_3 : decode cX7_findAll 3 = .ok (.getfield 38, 3) := by decide +kernel
theorem dX7_findAll_6 : decode cX7_findAll 6 = .ok (.ishl, 1) := by decide +kernel
theorem dX7_findAll_7 : decode cX7_findAll 7 = .ok (.iconst 1, 1) := by decide +kernel
theorem dX7_findAll_8 : decode cX7_findAll 8 = .ok (.isub, 1) := by decide +kernel
theorem dX7_findAll_9 : decode cX7_findAll 9 = .ok (.invokevirtual 122, 3) := by decide +kernel
theorem dX7_findAll_12 : decode cX7_findAll 12 = .ok (.istore_n 1, 1) := by decide +kernel
theorem dX7_findAll_13 : decode cX7_findAll 13 = .ok (.iconst 0, 1) := by decide +kernel
theorem dX7_findAll_14 : decode cX7_findAll 14 = .ok (.istore_n 2, 1) := by decide +kernel
theorem dX7_findAll_15 : decode cX7_findAll 15 = .ok (.iload_n 2, 1) := by decide +kernel
theorem dX7_findAll_16 : decode cX7_findAll 16 = .ok (.iconst 1, 1) := by decide +kernel
theorem dX7_findAll_17 : decode cX7_findAll 17 = .ok (.iload_n 1, 1) := by decide +kernel
theorem dX7_findAll_18 : decode cX7_findAll 18 = .ok (.ishl, 1) := by decide +kernel
theorem dX7_findAll_19 : decode cX7_findAll 19 = .ok (.if_icmp .ge 37, 3) := by decide +kernel
theorem dX7_findAll_22 : decode cX7_findAll 22 = .ok (.aload_n 0, 1) := by decide +kernel
theorem dX7_findAll_23 : decode cX7_findAll 23 = .ok (.iload_n 2, 1) := by decide +kernel
theorem dX7_findAll_24 : decode cX7_findAll 24 = .ok (.iload_n 1, 1) := by decide +kernel
theorem dX7_findAll_25 : decode cX7_findAll 25 = .ok (.invokevirtual 125, 3) := by decide +kernel
theorem dX7_findAll_28 : decode cX7_findAll 28 = .ok (.istore_n 3, 1) := by decide +kernel
theorem dX7_findAll_29 : decode cX7_findAll 29 = .ok (.iload_n 3, 1) := by decide +kernel
theorem dX7_findAll_30 : decode cX7_findAll 30 = .ok (.iload_n 1, 1) := by decide +kernel
theorem dX7_findAll_31 : decode cX7_findAll 31 = .ok (.if_icmp .ne 11, 3) := by decide +kernel
theorem dX7_findAll_34 : decode cX7_findAll 34 = .ok (.aload_n 0, 1) := by decide +kernel
theorem dX7_findAll_35 : decode cX7_findAll 35 = .ok (.iload_n 2, 1) := by decide +kernel
theorem dX7_findAll_36 : decode cX7_findAll 36 = .ok (.invokevirtual 128, 3) := by decide +kernel
theorem dX7_findAll_39 : decode cX7_findAll 39 = .ok (.goto 11, 3) := by decide +kernel
theorem dX7_findAll_42 : decode cX7_findAll 42 = .ok (.iload_n 2, 1) := by decide +kernel
theorem dX7_findAll_43 : decode cX7_findAll 43 = .ok (.iload_n 1, 1) := by decide +kernel
theorem dX7_findAll_44 : decode cX7_findAll 44 = .ok (.iload_n 3, 1) := by decide +kernel
theorem dX7_findAll_45 : decode cX7_findAll 45 = .ok (.invokestatic 132, 3) := by decide +kernel
theorem dX7_findAll_48 : decode cX7_findAll 48 = .ok (.ior, 1) := by decide +kernel
theorem dX7_findAll_49 : decode cX7_findAll 49 = .ok (.istore_n 2, 1) := by decide +kernel
theorem dX7_findAll_50 : decode cX7_findAll 50 = .ok (.iinc 2 1, 3) := by decide +kernel
theorem dX7_findAll_53 : decode cX7_findAll 53 = .ok (.goto (-38), 3) := by decide +kernel
theorem dX7_findAll_56 : decode cX7_findAll 56 = .ok (.return_, 1) := by decide +kernel
theorem dX7_canStand_0 : decode cX7_canStand 0 = .ok (.aload_n 0, 1) := by decide +kernel
theorem dX7_canStand_1 : decode cX7_canStand 1 = .ok (.iload_n 1, 1) := by decide +kernel
theorem dX7_canStand_2 : decode cX7_canStand 2 = .ok (.invokevirtual 122, 3) := by decide +kernel
theorem dX7_canStand_5 : decode cX7_canStand 5 = .ok (.istore_n 2, 1) := by decide +kernel
theorem dX7_canStand_6 : decode cX7_canStand 6 = .ok (.iconst 0, 1) := by decide +kernel
theorem dX7_canStand_7 : decode cX7_canStand 7 = .ok (.istore_n 3, 1) := by decide +kernel
theorem dX7_canStand_8 : decode cX7_canStand 8 = .ok (.iload_n 3, 1) := by decide +kernel
theorem dX7_canStand_9 : decode cX7_canStand 9 = .ok (.iconst 1, 1) := by decide +kernel
theorem dX7_canStand_10 : decode cX7_canStand 10 = .ok (.iload_n 2, 1) := by decide +kernel
theorem dX7_canStand_11 : decode cX7_canStand 11 = .ok (.ishl, 1) := by decide +kernel
theorem dX7_canStand_12 : decode cX7_canStand 12 = .ok (.if_icmp .ge 34, 3) := by decide +kernel
theorem dX7_canStand_15 : decode cX7_canStand 15 = .ok (.aload_n 0, 1) := by decide +kernel
theorem dX7_canStand_16 : decode cX7_canStand 16 = .ok (.iload_n 3, 1) := by decide +kernel
theorem dX7_canStand_17 : decode cX7_canStand 17 = .ok (.iload_n 2, 1) := by decide +kernel
theorem dX7_canStand_18 : decode cX7_canStand 18 = .ok (.invokevirtual 125, 3) := by decide +kernel
theorem dX7_canStand_21 : decode cX7_canStand 21 = .ok (.istore 4, 2) := by decide +kernel
theorem dX7_canStand_23 : decode cX7_canStand 23 = .ok (.iload 4, 2) := by decide +kernel
theorem dX7_canStand_25 : decode cX7_canStand 25 = .ok (.iload_n 2, 1) := by decide +kernel
theorem dX7_canStand_26 : decode cX7_canStand 26 = .ok (.if_icmp .ne 5, 3) := by decide +kernel
theorem dX7_canStand_29 : decode cX7_canStand 29 = .ok (.iconst 1, 1) := by decide +kernel
theorem dX7_canStand_30 : decode cX7_canStand 30 = .ok (.ireturn, 1) := by decide +kernel
theorem dX7_canStand_31 : decode cX7_canStand 31 = .ok (.iload_n 3, 1) := by decide +kernel
theorem dX7_canStand_32 : decode cX7_canStand 32 = .ok (.iload_n 2, 1) := by decide +kernel
theorem dX7_canStand_33 : decode cX7_canStand 33 = .ok (.iload 4, 2) := by decide +kernel
theorem dX7_canStand_35 : decode cX7_canStand 35 = .ok (.invokestatic 132, 3) := by decide +kernel
theorem dX7_canStand_38 : decode cX7_canStand 38 = .ok (.ior, 1) := by decide +kernel
theorem dX7_canStand_39 : decode cX7_canStand 39 = .ok (.istore_n 3, 1) := by decide +kernel
theorem dX7_canStand_40 : decode cX7_canStand 40 = .ok (.iinc 3 1, 3) := by decide +kernel
theorem dX7_canStand_43 : decode cX7_canStand 43 = .ok (.goto (-35), 3) := by decide +kernel
theorem dX7_canStand_46 : decode cX7_canStand 46 = .ok (.iconst 0, 1) := by decide +kernel
theorem dX7_canStand_47 : decode cX7_canStand 47 = .ok (.ireturn, 1) := by decide +kernel
theorem dX7_selectMembers_0 : decode cX7_selectMembers 0 = .ok (.iconst 0, 1) := by decide +kernel
theorem dX7_selectMembers_1 : decode cX7_selectMembers 1 = .ok (.istore_n 2, 1) := by decide +kernel
theorem dX7_selectMembers_2 : decode cX7_selectMembers 2 = .ok (.iconst 0, 1) := by decide +kernel
theorem dX7_selectMembers_3 : decode cX7_selectMembers 3 = .ok (.istore_n 3, 1) := by decide +kernel
theorem dX7_selectMembers_4 : decode cX7_selectMembers 4 = .ok (.iload_n 3, 1) := by decide +kernel
theorem dX7_selectMembers_5 : decode cX7_selectMembers 5 = .ok (.aload_n 0, 1) := by decide +kernel
theorem dX7_selectMembers_6 : decode cX7_selectMembers 6 = .ok (.getfield 38, 3) := by decide +kernel
theorem dX7_selectMembers_9 : decode cX7_selectMembers 9 = .ok (.if_icmp .ge 28, 3) := by decide +kernel
theorem dX7_selectMembers_12 : decode cX7_selectMembers 12 = .ok (.iload_n 1, 1) := by decide +kernel
theorem dX7_selectMembers_13 : decode cX7_selectMembers 13 = .ok (.iload_n 3, 1) := by decide +kernel
theorem dX7_selectMembers_14 : decode cX7_selectMembers 14 = .ok (.ishr, 1) := by decide +kernel
theorem dX7_selectMembers_15 : decode cX7_selectMembers 15 = .ok (.iconst 1, 1) := by decide +kernel
theorem dX7_selectMembers_16 : decode cX7_selectMembers 16 = .ok (.iand, 1) := by decide +kernel
theorem dX7_selectMembers_17 : decode cX7_selectMembers 17 = .ok (.iconst 1, 1) := by decide +kernel
theorem dX7_selectMembers_18 : decode cX7_selectMembers 18 = .ok (.if_icmp .ne 13, 3) := by decide +kernel
theorem dX7_selectMembers_21 : decode cX7_selectMembers 21 = .ok (.aload_n 0, 1) := by decide +kernel
theorem dX7_selectMembers_22 : decode cX7_selectMembers 22 = .ok (.getfield 27, 3) := by decide +kernel
theorem dX7_selectMembers_25 : decode cX7_selectMembers 25 = .ok (.iload_n 2, 1) := by decide +kernel
theorem dX7_selectMembers_26 : decode cX7_selectMembers 26 = .ok (.iload_n 3, 1) := by decide +kernel
theorem dX7_selectMembers_27 : decode cX7_selectMembers 27 = .ok (.iastore, 1) := by decide +kernel
theorem dX7_selectMembers_28 : decode cX7_selectMembers 28 = .ok (.iinc 2 1, 3) := by decide +kernel
theorem dX7_selectMembers_31 : decode cX7_selectMembers 31 = .ok (.iinc 3 1, 3) := by decide +kernel
theorem dX7_selectMembers_34 : decode cX7_selectMembers 34 = .ok (.goto (-30), 3) := by decide +kernel
theorem dX7_selectMembers_37 : decode cX7_selectMembers 37 = .ok (.iload_n 2, 1) := by decide +kernel
theorem dX7_selectMembers_38 : decode cX7_selectMembers 38 = .ok (.ireturn, 1) := by decide +kernel
theorem dX7_goodMembers_0 : decode cX7_goodMembers 0 = .ok (.iconst 0, 1) := by decide +kernel
theorem dX7_goodMembers_1 : decode cX7_goodMembers 1 = .ok (.istore_n 3, 1) := by decide +kernel
theorem dX7_goodMembers_2 : decode cX7_goodMembers 2 = .ok (.iconst 0, 1) := by decide +kernel
theorem dX7_goodMembers_3 : decode cX7_goodMembers 3 = .ok (.istore 4, 2) := by decide +kernel
theorem dX7_goodMembers_5 : decode cX7_goodMembers 5 = .ok (.iload 4, 2) := by decide +kernel
theorem dX7_goodMembers_7 : decode cX7_goodMembers 7 = .ok (.iload_n 2, 1) := by decide +kernel
theorem dX7_goodMembers_8 : decode cX7_goodMembers 8 = .ok (.if_icmp .ge 51, 3) := by decide +kernel
theorem dX7_goodMembers_11 : decode cX7_goodMembers 11 = .ok (.iload_n 1, 1) := by decide +kernel
theorem dX7_goodMembers_12 : decode cX7_goodMembers 12 = .ok (.aload_n 0, 1) := by decide +kernel
theorem dX7_goodMembers_13 : decode cX7_goodMembers 13 = .ok (.getfield 27, 3) := by decide +kernel
theorem dX7_goodMembers_16 : decode cX7_goodMembers 16 = .ok (.iload 4, 2) := by decide +kernel
theorem dX7_goodMembers_18 : decode cX7_goodMembers 18 = .ok (.iaload, 1) := by decide +kernel
theorem dX7_goodMembers_19 : decode cX7_goodMembers 19 = .ok (.iload_n 2, 1) := by decide +kernel
theorem dX7_goodMembers_20 : decode cX7_goodMembers 20 = .ok (.iconst 1, 1) := by decide +kernel
theorem dX7_goodMembers_21 : decode cX7_goodMembers 21 = .ok (.isub, 1) := by decide +kernel
theorem dX7_goodMembers_22 : decode cX7_goodMembers 22 = .ok (.iload 4, 2) := by decide +kernel
theorem dX7_goodMembers_24 : decode cX7_goodMembers 24 = .ok (.isub, 1) := by decide +kernel
theorem dX7_goodMembers_25 : decode cX7_goodMembers 25 = .ok (.invokestatic 70, 3) := by decide +kernel
theorem dX7_goodMembers_28 : decode cX7_goodMembers 28 = .ok (.istore 5, 2) := by decide +kernel
theorem dX7_goodMembers_30 : decode cX7_goodMembers 30 = .ok (.iload_n 3, 1) := by decide +kernel
theorem dX7_goodMembers_31 : decode cX7_goodMembers 31 = .ok (.aload_n 0, 1) := by decide +kernel
theorem dX7_goodMembers_32 : decode cX7_goodMembers 32 = .ok (.getfield 17, 3) := by decide +kernel
theorem dX7_goodMembers_35 : decode cX7_goodMembers 35 = .ok (.iload 5, 2) := by decide +kernel
theorem dX7_goodMembers_37 : decode cX7_goodMembers 37 = .ok (.iaload, 1) := by decide +kernel
theorem dX7_goodMembers_38 : decode cX7_goodMembers 38 = .ok (.ior, 1) := by decide +kernel
theorem dX7_goodMembers_39 : decode cX7_goodMembers 39 = .ok (.istore_n 3, 1) := by decide +kernel
theorem dX7_goodMembers_40 : decode cX7_goodMembers 40 = .ok (.iload_n 3, 1) := by decide +kernel
theorem dX7_goodMembers_41 : decode cX7_goodMembers 41 = .ok (.iload 5, 2) := by decide +kernel
theorem dX7_goodMembers_43 : decode cX7_goodMembers 43 = .ok (.ishr, 1) := by decide +kernel
theorem dX7_goodMembers_44 : decode cX7_goodMembers 44 = .ok (.iconst 1, 1) := by decide +kernel
theorem dX7_goodMembers_45 : decode cX7_goodMembers 45 = .ok (.iand, 1) := by decide +kernel
theorem dX7_goodMembers_46 : decode cX7_goodMembers 46 = .ok (.iconst 1, 1) := by decide +kernel
theorem dX7_goodMembers_47 : decode cX7_goodMembers 47 = .ok (.if_icmp .ne 6, 3) := by decide +kernel
theorem dX7_goodMembers_50 : decode cX7_goodMembers 50 = .ok (.iload 4, 2) := by decide +kernel
theorem dX7_goodMembers_52 : decode cX7_goodMembers 52 = .ok (.ireturn, 1) := by decide +kernel
theorem dX7_goodMembers_53 : decode cX7_goodMembers 53 = .ok (.iinc 4 1, 3) := by decide +kernel
theorem dX7_goodMembers_56 : decode cX7_goodMembers 56 = .ok (.goto (-51), 3) := by decide +kernel
theorem dX7_goodMembers_59 : decode cX7_goodMembers 59 = .ok (.iload_n 2, 1) := by decide +kernel
theorem dX7_goodMembers_60 : decode cX7_goodMembers 60 = .ok (.ireturn, 1) := by decide +kernel
theorem dX7_alikeBelow_0 : decode cX7_alikeBelow 0 = .ok (.iconst 1, 1) := by decide +kernel
theorem dX7_alikeBelow_1 : decode cX7_alikeBelow 1 = .ok (.iload_n 0, 1) := by decide +kernel
theorem dX7_alikeBelow_2 : decode cX7_alikeBelow 2 = .ok (.iconst 1, 1) := by decide +kernel
theorem dX7_alikeBelow_3 : decode cX7_alikeBelow 3 = .ok (.isub, 1) := by decide +kernel
theorem dX7_alikeBelow_4 : decode cX7_alikeBelow 4 = .ok (.iload_n 1, 1) := by decide +kernel
theorem dX7_alikeBelow_5 : decode cX7_alikeBelow 5 = .ok (.isub, 1) := by decide +kernel
theorem dX7_alikeBelow_6 : decode cX7_alikeBelow 6 = .ok (.ishl, 1) := by decide +kernel
theorem dX7_alikeBelow_7 : decode cX7_alikeBelow 7 = .ok (.iconst 1, 1) := by decide +kernel
theorem dX7_alikeBelow_8 : decode cX7_alikeBelow 8 = .ok (.isub, 1) := by decide +kernel
theorem dX7_alikeBelow_9 : decode cX7_alikeBelow 9 = .ok (.ireturn, 1) := by decide +kernel
theorem dX7_pickOf_0 : decode cX7_pickOf 0 = .ok (.iconst 2, 1) := by decide +kernel
theorem dX7_pickOf_1 : decode cX7_pickOf 1 = .ok (.iload_n 1, 1) := by decide +kernel
theorem dX7_pickOf_2 : decode cX7_pickOf 2 = .ok (.imul, 1) := by decide +kernel
theorem dX7_pickOf_3 : decode cX7_pickOf 3 = .ok (.iload_n 0, 1) := by decide +kernel
theorem dX7_pickOf_4 : decode cX7_pickOf 4 = .ok (.iload_n 2, 1) := by decide +kernel
theorem dX7_pickOf_5 : decode cX7_pickOf 5 = .ok (.ishr, 1) := by decide +kernel
theorem dX7_pickOf_6 : decode cX7_pickOf 6 = .ok (.iconst 1, 1) := by decide +kernel
theorem dX7_pickOf_7 : decode cX7_pickOf 7 = .ok (.iand, 1) := by decide +kernel
theorem dX7_pickOf_8 : decode cX7_pickOf 8 = .ok (.iadd, 1) := by decide +kernel
theorem dX7_pickOf_9 : decode cX7_pickOf 9 = .ok (.ireturn, 1) := by decide +kernel
theorem dX7_addWorld_0 : decode cX7_addWorld 0 = .ok (.aload_n 0, 1) := by decide +kernel
theorem dX7_addWorld_1 : decode cX7_addWorld 1 = .ok (.getfield 23, 3) := by decide +kernel
theorem dX7_addWorld_4 : decode cX7_addWorld 4 = .ok (.iload_n 1, 1) := by decide +kernel
theorem dX7_addWorld_5 : decode cX7_addWorld 5 = .ok (.bipush 64, 2) := by decide +kernel
theorem dX7_addWorld_7 : decode cX7_addWorld 7 = .ok (.idiv, 1) := by decide +kernel
theorem dX7_addWorld_8 : decode cX7_addWorld 8 = .ok (.dup2, 1) := by decide +kernel
theorem dX7_addWorld_9 : decode cX7_addWorld 9 = .ok (.laload, 1) := by decide +kernel
theorem dX7_addWorld_10 : decode cX7_addWorld 10 = .ok (.lconst 1, 1) := by decide +kernel
theorem dX7_addWorld_11 : decode cX7_addWorld 11 = .ok (.iload_n 1, 1) := by decide +kernel
theorem dX7_addWorld_12 : decode cX7_addWorld 12 = .ok (.bipush 64, 2) := by decide +kernel
theorem dX7_addWorld_14 : decode cX7_addWorld 14 = .ok (.irem, 1) := by decide +kernel
theorem dX7_addWorld_15 : decode cX7_addWorld 15 = .ok (.lshl, 1) := by decide +kernel
theorem dX7_addWorld_16 : decode cX7_addWorld 16 = .ok (.lor, 1) := by decide +kernel
theorem dX7_addWorld_17 : decode cX7_addWorld 17 = .ok (.lastore, 1) := by decide +kernel
theorem dX7_addWorld_18 : decode cX7_addWorld 18 = .ok (.aload_n 0, 1) := by decide +kernel
theorem dX7_addWorld_19 : decode cX7_addWorld 19 = .ok (.dup, 1) := by decide +kernel
theorem dX7_addWorld_20 : decode cX7_addWorld 20 = .ok (.getfield 41, 3) := by decide +kernel
theorem dX7_addWorld_23 : decode cX7_addWorld 23 = .ok (.iconst 1, 1) := by decide +kernel
theorem dX7_addWorld_24 : decode cX7_addWorld 24 = .ok (.iadd, 1) := by decide +kernel
theorem dX7_addWorld_25 : decode cX7_addWorld 25 = .ok (.putfield 41, 3) := by decide +kernel
theorem dX7_addWorld_28 : decode cX7_addWorld 28 = .ok (.iconst 0, 1) := by decide +kernel
theorem dX7_addWorld_29 : decode cX7_addWorld 29 = .ok (.istore_n 2, 1) := by decide +kernel
theorem dX7_addWorld_30 : decode cX7_addWorld 30 = .ok (.iconst 0, 1) := by decide +kernel
theorem dX7_addWorld_31 : decode cX7_addWorld 31 = .ok (.istore_n 3, 1) := by decide +kernel
theorem dX7_addWorld_32 : decode cX7_addWorld 32 = .ok (.iload_n 3, 1) := by decide +kernel
theorem dX7_addWorld_33 : decode cX7_addWorld 33 = .ok (.aload_n 0, 1) := by decide +kernel
theorem dX7_addWorld_34 : decode cX7_addWorld 34 = .ok (.getfield 38, 3) := by decide +kernel
theorem dX7_addWorld_37 : decode cX7_addWorld 37 = .ok (.if_icmp .ge 27, 3) := by decide +kernel
theorem dX7_addWorld_40 : decode cX7_addWorld 40 = .ok (.iload_n 2, 1) := by decide +kernel
theorem dX7_addWorld_41 : decode cX7_addWorld 41 = .ok (.iconst 1, 1) := by decide +kernel
theorem dX7_addWorld_42 : decode cX7_addWorld 42 = .ok (.iload_n 1, 1) := by decide +kernel
theorem dX7_addWorld_43 : decode cX7_addWorld 43 = .ok (.iload_n 3, 1) := by decide +kernel
theorem dX7_addWorld_44 : decode cX7_addWorld 44 = .ok (.aload_n 0, 1) := by decide +kernel
theorem dX7_addWorld_45 : decode cX7_addWorld 45 = .ok (.getfield 38, 3) := by decide +kernel
theorem dX7_addWorld_48 : decode cX7_addWorld 48 = .ok (.iconst 1, 1) := by decide +kernel
theorem dX7_addWorld_49 : decode cX7_addWorld 49 = .ok (.isub, 1) := by decide +kernel
theorem dX7_addWorld_50 : decode cX7_addWorld 50 = .ok (.iload_n 3, 1) := by decide +kernel
theorem dX7_addWorld_51 : decode cX7_addWorld 51 = .ok (.isub, 1) := by decide +kernel
theorem dX7_addWorld_52 : decode cX7_addWorld 52 = .ok (.invokestatic 70, 3) := by decide +kernel
theorem dX7_addWorld_55 : decode cX7_addWorld 55 = .ok (.ishl, 1) := by decide +kernel
theorem dX7_addWorld_56 : decode cX7_addWorld 56 = .ok (.ior, 1) := by decide +kernel
theorem dX7_addWorld_57 : decode cX7_addWorld 57 = .ok (.istore_n 2, 1) := by decide +kernel
theorem dX7_addWorld_58 : decode cX7_addWorld 58 = .ok (.iinc 3 1, 3) := by decide +kernel
theorem dX7_addWorld_61 : decode cX7_addWorld 61 = .ok (.goto (-29), 3) := by decide +kernel
theorem dX7_addWorld_64 : decode cX7_addWorld 64 = .ok (.iconst 0, 1) := by decide +kernel
theorem dX7_addWorld_65 : decode cX7_addWorld 65 = .ok (.istore_n 3, 1) := by decide +kernel
theorem dX7_addWorld_66 : decode cX7_addWorld 66 = .ok (.iload_n 3, 1) := by decide +kernel
theorem dX7_addWorld_67 : decode cX7_addWorld 67 = .ok (.aload_n 0, 1) := by decide +kernel
theorem dX7_addWorld_68 : decode cX7_addWorld 68 = .ok (.getfield 38, 3) := by decide +kernel
theorem dX7_addWorld_71 : decode cX7_addWorld 71 = .ok (.if_icmp .ge 31, 3) := by decide +kernel
theorem dX7_addWorld_74 : decode cX7_addWorld 74 = .ok (.aload_n 0, 1) := by decide +kernel
theorem dX7_addWorld_75 : decode cX7_addWorld 75 = .ok (.getfield 20, 3) := by decide +kernel
theorem dX7_addWorld_78 : decode cX7_addWorld 78 = .ok (.iload_n 1, 1) := by decide +kernel
theorem dX7_addWorld_79 : decode cX7_addWorld 79 = .ok (.iload_n 3, 1) := by decide +kernel
theorem dX7_addWorld_80 : decode cX7_addWorld 80 = .ok (.aload_n 0, 1) := by decide +kernel
theorem dX7_addWorld_81 : decode cX7_addWorld 81 = .ok (.getfield 38, 3) := by decide +kernel
theorem dX7_addWorld_84 : decode cX7_addWorld 84 = .ok (.iconst 1, 1) := by decide +kernel
theorem dX7_addWorld_85 : decode cX7_addWorld 85 = .ok (.isub, 1) := by decide +kernel
theorem dX7_addWorld_86 : decode cX7_addWorld 86 = .ok (.iload_n 3, 1) := by decide +kernel
theorem dX7_addWorld_87 : decode cX7_addWorld 87 = .ok (.isub, 1) := by decide +kernel
theorem dX7_addWorld_88 : decode cX7_addWorld 88 = .ok (.invokestatic 70, 3) := by decide +kernel
theorem dX7_addWorld_91 : decode cX7_addWorld 91 = .ok (.dup2, 1) := by decide +kernel
theorem dX7_addWorld_92 : decode cX7_addWorld 92 = .ok (.iaload, 1) := by decide +kernel
theorem dX7_addWorld_93 : decode cX7_addWorld 93 = .ok (.iload_n 2, 1) := by decide +kernel
theorem dX7_addWorld_94 : decode cX7_addWorld 94 = .ok (.ior, 1) := by decide +kernel
theorem dX7_addWorld_95 : decode cX7_addWorld 95 = .ok (.iastore, 1) := by decide +kernel
theorem dX7_addWorld_96 : decode cX7_addWorld 96 = .ok (.iinc 3 1, 3) := by decide +kernel
theorem dX7_addWorld_99 : decode cX7_addWorld 99 = .ok (.goto (-33), 3) := by decide +kernel
theorem dX7_addWorld_102 : decode cX7_addWorld 102 = .ok (.return_, 1) := by decide +kernel
theorem dX7_nthWorld_0 : decode cX7_nthWorld 0 = .ok (.iload_n 1, 1) := by decide +kernel
theorem dX7_nthWorld_1 : decode cX7_nthWorld 1 = .ok (.istore_n 2, 1) := by decide +kernel
theorem dX7_nthWorld_2 : decode cX7_nthWorld 2 = .ok (.iconst 0, 1) := by decide +kernel
theorem dX7_nthWorld_3 : decode cX7_nthWorld 3 = .ok (.istore_n 3, 1) := by decide +kernel
theorem dX7_nthWorld_4 : decode cX7_nthWorld 4 = .ok (.iload_n 3, 1) := by decide +kernel
theorem dX7_nthWorld_5 : decode cX7_nthWorld 5 = .ok (.aload_n 0, 1) := by decide +kernel
theorem dX7_nthWorld_6 : decode cX7_nthWorld 6 = .ok (.getfield 23, 3) := by decide +kernel
theorem dX7_nthWorld_9 : decode cX7_nthWorld 9 = .ok (.arraylength, 1) := by decide +kernel
theorem dX7_nthWorld_10 : decode cX7_nthWorld 10 = .ok (.if_icmp .ge 47, 3) := by decide +kernel
theorem dX7_nthWorld_13 : decode cX7_nthWorld 13 = .ok (.aload_n 0, 1) := by decide +kernel
theorem dX7_nthWorld_14 : decode cX7_nthWorld 14 = .ok (.getfield 23, 3) := by decide +kernel
theorem dX7_nthWorld_17 : decode cX7_nthWorld 17 = .ok (.iload_n 3, 1) := by decide +kernel
theorem dX7_nthWorld_18 : decode cX7_nthWorld 18 = .ok (.laload, 1) := by decide +kernel
theorem dX7_nthWorld_19 : decode cX7_nthWorld 19 = .ok (.invokestatic 135, 3) := by decide +kernel
theorem dX7_nthWorld_22 : decode cX7_nthWorld 22 = .ok (.istore 4, 2) := by decide +kernel
theorem dX7_nthWorld_24 : decode cX7_nthWorld 24 = .ok (.iload_n 2, 1) := by decide +kernel
theorem dX7_nthWorld_25 : decode cX7_nthWorld 25 = .ok (.iload 4, 2) := by decide +kernel
theorem dX7_nthWorld_27 : decode cX7_nthWorld 27 = .ok (.if_icmp .ge 19, 3) := by decide +kernel
theorem dX7_nthWorld_30 : decode cX7_nthWorld 30 = .ok (.iload_n 3, 1) := by decide +kernel
theorem dX7_nthWorld_31 : decode cX7_nthWorld 31 = .ok (.bipush 64, 2) := by decide +kernel
theorem dX7_nthWorld_33 : decode cX7_nthWorld 33 = .ok (.imul, 1) := by decide +kernel
theorem dX7_nthWorld_34 : decode cX7_nthWorld 34 = .ok (.aload_n 0, 1) := by decide +kernel
theorem dX7_nthWorld_35 : decode cX7_nthWorld 35 = .ok (.getfield 23, 3) := by decide +kernel
theorem dX7_nthWorld_38 : decode cX7_nthWorld 38 = .ok (.iload_n 3, 1) := by decide +kernel
theorem dX7_nthWorld_39 : decode cX7_nthWorld 39 = .ok (.laload, 1) := by decide +kernel
theorem dX7_nthWorld_40 : decode cX7_nthWorld 40 = .ok (.iload_n 2, 1) := by decide +kernel
theorem dX7_nthWorld_41 : decode cX7_nthWorld 41 = .ok (.invokestatic 140, 3) := by decide +kernel
theorem dX7_nthWorld_44 : decode cX7_nthWorld 44 = .ok (.iadd, 1) := by decide +kernel
theorem dX7_nthWorld_45 : decode cX7_nthWorld 45 = .ok (.ireturn, 1) := by decide +kernel
theorem dX7_nthWorld_46 : decode cX7_nthWorld 46 = .ok (.iload_n 2, 1) := by decide +kernel
theorem dX7_nthWorld_47 : decode cX7_nthWorld 47 = .ok (.iload 4, 2) := by decide +kernel
theorem dX7_nthWorld_49 : decode cX7_nthWorld 49 = .ok (.isub, 1) := by decide +kernel
theorem dX7_nthWorld_50 : decode cX7_nthWorld 50 = .ok (.istore_n 2, 1) := by decide +kernel
theorem dX7_nthWorld_51 : decode cX7_nthWorld 51 = .ok (.iinc 3 1, 3) := by decide +kernel
theorem dX7_nthWorld_54 : decode cX7_nthWorld 54 = .ok (.goto (-50), 3) := by decide +kernel
theorem dX7_nthWorld_57 : decode cX7_nthWorld 57 = .ok (.iconst 0, 1) := by decide +kernel
theorem dX7_nthWorld_58 : decode cX7_nthWorld 58 = .ok (.ireturn, 1) := by decide +kernel
theorem dX7_nthBit_0 : decode cX7_nthBit 0 = .ok (.iload_n 2, 1) := by decide +kernel
theorem dX7_nthBit_1 : decode cX7_nthBit 1 = .ok (.istore_n 3, 1) := by decide +kernel
theorem dX7_nthBit_2 : decode cX7_nthBit 2 = .ok (.iconst 0, 1) := by decide +kernel
theorem dX7_nthBit_3 : decode cX7_nthBit 3 = .ok (.istore 4, 2) := by decide +kernel
theorem dX7_nthBit_5 : decode cX7_nthBit 5 = .ok (.iload 4, 2) := by decide +kernel
theorem dX7_nthBit_7 : decode cX7_nthBit 7 = .ok (.bipush 64, 2) := by decide +kernel
theorem dX7_nthBit_9 : decode cX7_nthBit 9 = .ok (.if_icmp .ge 30, 3) := by decide +kernel
theorem dX7_nthBit_12 : decode cX7_nthBit 12 = .ok (.lload_n 0, 1) := by decide +kernel
theorem dX7_nthBit_13 : decode cX7_nthBit 13 = .ok (.iload 4, 2) := by decide +kernel
theorem dX7_nthBit_15 : decode cX7_nthBit 15 = .ok (.lushr, 1) := by decide +kernel
theorem dX7_nthBit_16 : decode cX7_nthBit 16 = .ok (.lconst 1, 1) := by decide +kernel
theorem dX7_nthBit_17 : decode cX7_nthBit 17 = .ok (.land, 1) := by decide +kernel
theorem dX7_nthBit_18 : decode cX7_nthBit 18 = .ok (.lconst 1, 1) := by decide +kernel
theorem dX7_nthBit_19 : decode cX7_nthBit 19 = .ok (.lcmp, 1) := by decide +kernel
theorem dX7_nthBit_20 : decode cX7_nthBit 20 = .ok (.ifCond .ne 13, 3) := by decide +kernel
theorem dX7_nthBit_23 : decode cX7_nthBit 23 = .ok (.iload_n 3, 1) := by decide +kernel
theorem dX7_nthBit_24 : decode cX7_nthBit 24 = .ok (.ifCond .ne 6, 3) := by decide +kernel
theorem dX7_nthBit_27 : decode cX7_nthBit 27 = .ok (.iload 4, 2) := by decide +kernel
theorem dX7_nthBit_29 : decode cX7_nthBit 29 = .ok (.ireturn, 1) := by decide +kernel
theorem dX7_nthBit_30 : decode cX7_nthBit 30 = .ok (.iinc 3 (-1), 3) := by decide +kernel
theorem dX7_nthBit_33 : decode cX7_nthBit 33 = .ok (.iinc 4 1, 3) := by decide +kernel
theorem dX7_nthBit_36 : decode cX7_nthBit 36 = .ok (.goto (-31), 3) := by decide +kernel
theorem dX7_nthBit_39 : decode cX7_nthBit 39 = .ok (.iconst 0, 1) := by decide +kernel
theorem dX7_nthBit_40 : decode cX7_nthBit 40 = .ok (.ireturn, 1) := by decide +kernel
