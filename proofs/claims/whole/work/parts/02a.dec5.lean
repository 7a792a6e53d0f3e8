theorem dX9_deed_60 : decode cX9_deed 60 = .ok (.iadd, 1) := by decide +kernel
theorem dX9_deed_61 : decode cX9_deed 61 = .ok (.invokevirtual 273, 3) := by decide +kernel
theorem dX9_deed_64 : decode cX9_deed 64 = .ok (.aload_n 0, 1) := by decide +kernel
theorem dX9_deed_65 : decode cX9_deed 65 = .ok (.iload_n 1, 1) := by decide +kernel
theorem dX9_deed_66 : decode cX9_deed 66 = .ok (.iload_n 2, 1) := by decide +kernel
theorem dX9_deed_67 : decode cX9_deed 67 = .ok (.invokevirtual 273, 3) := by decide +kernel
theorem dX9_deed_70 : decode cX9_deed 70 = .ok (.isub, 1) := by decide +kernel
theorem dX9_deed_71 : decode cX9_deed 71 = .ok (.ireturn, 1) := by decide +kernel
theorem dX9_none_0 : decode cX9_none 0 = .ok (.aload_n 0, 1) := by decide +kernel
theorem dX9_none_1 : decode cX9_none 1 = .ok (.iconst 0, 1) := by decide +kernel
theorem dX9_none_2 : decode cX9_none 2 = .ok (.putfield 1, 3) := by decide +kernel
theorem dX9_none_5 : decode cX9_none 5 = .ok (.aload_n 0, 1) := by decide +kernel
theorem dX9_none_6 : decode cX9_none 6 = .ok (.iload_n 1, 1) := by decide +kernel
theorem dX9_none_7 : decode cX9_none 7 = .ok (.invokevirtual 267, 3) := by decide +kernel
theorem dX9_none_10 : decode cX9_none 10 = .ok (.ifCond .eq 25, 3) := by decide +kernel
theorem dX9_none_13 : decode cX9_none 13 = .ok (.iload_n 2, 1) := by decide +kernel
theorem dX9_none_14 : decode cX9_none 14 = .ok (.iconst 0, 1) := by decide +kernel
theorem dX9_none_15 : decode cX9_none 15 = .ok (.sipush 3649, 3) := by decide +kernel
theorem dX9_none_18 : decode cX9_none 18 = .ok (.invokestatic 262, 3) := by decide +kernel
theorem dX9_none_21 : decode cX9_none 21 = .ok (.ifCond .eq 14, 3) := by decide +kernel
theorem dX9_none_24 : decode cX9_none 24 = .ok (.iload_n 3, 1) := by decide +kernel
theorem dX9_none_25 : decode cX9_none 25 = .ok (.iconst 0, 1) := by decide +kernel
theorem dX9_none_26 : decode cX9_none 26 = .ok (.sipush 9999, 3) := by decide +kernel
theorem dX9_none_29 : decode cX9_none 29 = .ok (.invokestatic 262, 3) := by decide +kernel
theorem dX9_none_32 : decode cX9_none 32 = .ok (.ifCond .ne 5, 3) := by decide +kernel
theorem dX9_none_35 : decode cX9_none 35 = .ok (.iconst (-1), 1) := by decide +kernel
theorem dX9_none_36 : decode cX9_none 36 = .ok (.ireturn, 1) := by decide +kernel
theorem dX9_none_37 : decode cX9_none 37 = .ok (.iconst 0, 1) := by decide +kernel
theorem dX9_none_38 : decode cX9_none 38 = .ok (.istore 4, 2) := by decide +kernel
theorem dX9_none_40 : decode cX9_none 40 = .ok (.iconst 0, 1) := by decide +kernel
theorem dX9_none_41 : decode cX9_none 41 = .ok (.istore 5, 2) := by decide +kernel
theorem dX9_none_43 : decode cX9_none 43 = .ok (.iload 5, 2) := by decide +kernel
theorem dX9_none_45 : decode cX9_none 45 = .ok (.sipush 1440, 3) := by decide +kernel
theorem dX9_none_48 : decode cX9_none 48 = .ok (.if_icmp .ge 48, 3) := by decide +kernel
theorem dX9_none_51 : decode cX9_none 51 = .ok (.sipush 1440, 3) := by decide +kernel
theorem dX9_none_54 : decode cX9_none 54 = .ok (.iload_n 2, 1) := by decide +kernel
theorem dX9_none_55 : decode cX9_none 55 = .ok (.imul, 1) := by decide +kernel
theorem dX9_none_56 : decode cX9_none 56 = .ok (.iload 5, 2) := by decide +kernel
theorem dX9_none_58 : decode cX9_none 58 = .ok (.iadd, 1) := by decide +kernel
theorem dX9_none_59 : decode cX9_none 59 = .ok (.istore 6, 2) := by decide +kernel
theorem dX9_none_61 : decode cX9_none 61 = .ok (.iload 4, 2) := by decide +kernel
theorem dX9_none_63 : decode cX9_none 63 = .ok (.aload_n 0, 1) := by decide +kernel
theorem dX9_none_64 : decode cX9_none 64 = .ok (.iload_n 1, 1) := by decide +kernel
theorem dX9_none_65 : decode cX9_none 65 = .ok (.aload_n 0, 1) := by decide +kernel
theorem dX9_none_66 : decode cX9_none 66 = .ok (.iload_n 1, 1) := by decide +kernel
theorem dX9_none_67 : decode cX9_none 67 = .ok (.iload 6, 2) := by decide +kernel
theorem dX9_none_69 : decode cX9_none 69 = .ok (.invokevirtual 256, 3) := by decide +kernel
theorem dX9_none_72 : decode cX9_none 72 = .ok (.iload_n 3, 1) := by decide +kernel
theorem dX9_none_73 : decode cX9_none 73 = .ok (.iadd, 1) := by decide +kernel
theorem dX9_none_74 : decode cX9_none 74 = .ok (.invokevirtual 273, 3) := by decide +kernel
theorem dX9_none_77 : decode cX9_none 77 = .ok (.iload 6, 2) := by decide +kernel
theorem dX9_none_79 : decode cX9_none 79 = .ok (.if_icmp .gt 7, 3) := by decide +kernel
theorem dX9_none_82 : decode cX9_none 82 = .ok (.iconst 1, 1) := by decide +kernel
theorem dX9_none_83 : decode cX9_none 83 = .ok (.goto 4, 3) := by decide +kernel
theorem dX9_none_86 : decode cX9_none 86 = .ok (.iconst 0, 1) := by decide +kernel
theorem dX9_none_87 : decode cX9_none 87 = .ok (.iadd, 1) := by decide +kernel
theorem dX9_none_88 : decode cX9_none 88 = .ok (.istore 4, 2) := by decide +kernel
theorem dX9_none_90 : decode cX9_none 90 = .ok (.iinc 5 1, 3) := by decide +kernel
theorem dX9_none_93 : decode cX9_none 93 = .ok (.goto (-50), 3) := by decide +kernel
theorem dX9_none_96 : decode cX9_none 96 = .ok (.iload 4, 2) := by decide +kernel
theorem dX9_none_98 : decode cX9_none 98 = .ok (.ireturn, 1) := by decide +kernel
theorem dX9_papers_0 : decode cX9_papers 0 = .ok (.aload_n 0, 1) := by decide +kernel
theorem dX9_papers_1 : decode cX9_papers 1 = .ok (.getfield 73, 3) := by decide +kernel
theorem dX9_papers_4 : decode cX9_papers 4 = .ok (.sipush 352, 3) := by decide +kernel
theorem dX9_papers_7 : decode cX9_papers 7 = .ok (.iaload, 1) := by decide +kernel
theorem dX9_papers_8 : decode cX9_papers 8 = .ok (.ireturn, 1) := by decide +kernel
theorem dX9_paperOf_0 : decode cX9_paperOf 0 = .ok (.aload_n 0, 1) := by decide +kernel
theorem dX9_paperOf_1 : decode cX9_paperOf 1 = .ok (.getfield 73, 3) := by decide +kernel
theorem dX9_paperOf_4 : decode cX9_paperOf 4 = .ok (.sipush 353, 3) := by decide +kernel
theorem dX9_paperOf_7 : decode cX9_paperOf 7 = .ok (.iconst 4, 1) := by decide +kernel
theorem dX9_paperOf_8 : decode cX9_paperOf 8 = .ok (.iload_n 1, 1) := by decide +kernel
theorem dX9_paperOf_9 : decode cX9_paperOf 9 = .ok (.imul, 1) := by decide +kernel
theorem dX9_paperOf_10 : decode cX9_paperOf 10 = .ok (.iadd, 1) := by decide +kernel
theorem dX9_paperOf_11 : decode cX9_paperOf 11 = .ok (.iload_n 2, 1) := by decide +kernel
theorem dX9_paperOf_12 : decode cX9_paperOf 12 = .ok (.iadd, 1) := by decide +kernel
theorem dX9_paperOf_13 : decode cX9_paperOf 13 = .ok (.iaload, 1) := by decide +kernel
theorem dX9_paperOf_14 : decode cX9_paperOf 14 = .ok (.ireturn, 1) := by decide +kernel
theorem dX9_isPaper_0 : decode cX9_isPaper 0 = .ok (.iload_n 1, 1) := by decide +kernel
theorem dX9_isPaper_1 : decode cX9_isPaper 1 = .ok (.ifCond .lt 15, 3) := by decide +kernel
theorem dX9_isPaper_4 : decode cX9_isPaper 4 = .ok (.iload_n 1, 1) := by decide +kernel
theorem dX9_isPaper_5 : decode cX9_isPaper 5 = .ok (.aload_n 0, 1) := by decide +kernel
theorem dX9_isPaper_6 : decode cX9_isPaper 6 = .ok (.invokevirtual 284, 3) := by decide +kernel
theorem dX9_isPaper_9 : decode cX9_isPaper 9 = .ok (.if_icmp .ge 7, 3) := by decide +kernel
theorem dX9_isPaper_12 : decode cX9_isPaper 12 = .ok (.iconst 1, 1) := by decide +kernel
theorem dX9_isPaper_13 : decode cX9_isPaper 13 = .ok (.goto 4, 3) := by decide +kernel
theorem dX9_isPaper_16 : decode cX9_isPaper 16 = .ok (.iconst 0, 1) := by decide +kernel
theorem dX9_isPaper_17 : decode cX9_isPaper 17 = .ok (.ireturn, 1) := by decide +kernel
theorem dX9_paper_0 : decode cX9_paper 0 = .ok (.aload_n 0, 1) := by decide +kernel
theorem dX9_paper_1 : decode cX9_paper 1 = .ok (.iconst 0, 1) := by decide +kernel
theorem dX9_paper_2 : decode cX9_paper 2 = .ok (.putfield 1, 3) := by decide +kernel
theorem dX9_paper_5 : decode cX9_paper 5 = .ok (.aload_n 0, 1) := by decide +kernel
theorem dX9_paper_6 : decode cX9_paper 6 = .ok (.iload_n 1, 1) := by decide +kernel
theorem dX9_paper_7 : decode cX9_paper 7 = .ok (.invokevirtual 287, 3) := by decide +kernel
theorem dX9_paper_10 : decode cX9_paper 10 = .ok (.ifCond .eq 21, 3) := by decide +kernel
theorem dX9_paper_13 : decode cX9_paper 13 = .ok (.iload_n 2, 1) := by decide +kernel
theorem dX9_paper_14 : decode cX9_paper 14 = .ok (.iconst 0, 1) := by decide +kernel
theorem dX9_paper_15 : decode cX9_paper 15 = .ok (.iconst 3, 1) := by decide +kernel
theorem dX9_paper_16 : decode cX9_paper 16 = .ok (.invokestatic 262, 3) := by decide +kernel
theorem dX9_paper_19 : decode cX9_paper 19 = .ok (.ifCond .eq 12, 3) := by decide +kernel
theorem dX9_paper_22 : decode cX9_paper 22 = .ok (.aload_n 0, 1) := by decide +kernel
theorem dX9_paper_23 : decode cX9_paper 23 = .ok (.iload_n 1, 1) := by decide +kernel
theorem dX9_paper_24 : decode cX9_paper 24 = .ok (.iload_n 2, 1) := by decide +kernel
theorem dX9_paper_25 : decode cX9_paper 25 = .ok (.invokevirtual 290, 3) := by decide +kernel
theorem dX9_paper_28 : decode cX9_paper 28 = .ok (.goto 4, 3) := by decide +kernel
theorem dX9_paper_31 : decode cX9_paper 31 = .ok (.iconst (-1), 1) := by decide +kernel
theorem dX9_paper_32 : decode cX9_paper 32 = .ok (.ireturn, 1) := by decide +kernel
theorem dX9_holds_0 : decode cX9_holds 0 = .ok (.iconst 1, 1) := by decide +kernel
theorem dX9_holds_1 : decode cX9_holds 1 = .ok (.istore_n 3, 1) := by decide +kernel
theorem dX9_holds_2 : decode cX9_holds 2 = .ok (.iconst 0, 1) := by decide +kernel
theorem dX9_holds_3 : decode cX9_holds 3 = .ok (.istore 4, 2) := by decide +kernel
theorem dX9_holds_5 : decode cX9_holds 5 = .ok (.iload 4, 2) := by decide +kernel
theorem dX9_holds_7 : decode cX9_holds 7 = .ok (.aload_n 0, 1) := by decide +kernel
theorem dX9_holds_8 : decode cX9_holds 8 = .ok (.getfield 73, 3) := by decide +kernel
theorem dX9_holds_11 : decode cX9_holds 11 = .ok (.sipush 401, 3) := by decide +kernel
theorem dX9_holds_14 : decode cX9_holds 14 = .ok (.iaload, 1) := by decide +kernel
theorem dX9_holds_15 : decode cX9_holds 15 = .ok (.if_icmp .ge 196, 3) := by decide +kernel
theorem dX9_holds_18 : decode cX9_holds 18 = .ok (.sipush 402, 3) := by decide +kernel
theorem dX9_holds_21 : decode cX9_holds 21 = .ok (.iconst 4, 1) := by decide +kernel
theorem dX9_holds_22 : decode cX9_holds 22 = .ok (.iload 4, 2) := by decide +kernel
theorem dX9_holds_24 : decode cX9_holds 24 = .ok (.imul, 1) := by decide +kernel
theorem dX9_holds_25 : decode cX9_holds 25 = .ok (.iadd, 1) := by decide +kernel
theorem dX9_holds_26 : decode cX9_holds 26 = .ok (.istore 5, 2) := by decide +kernel
theorem dX9_holds_28 : decode cX9_holds 28 = .ok (.aload_n 0, 1) := by decide +kernel
theorem dX9_holds_29 : decode cX9_holds 29 = .ok (.getfield 73, 3) := by decide +kernel
theorem dX9_holds_32 : decode cX9_holds 32 = .ok (.iload 5, 2) := by decide +kernel
theorem dX9_holds_34 : decode cX9_holds 34 = .ok (.iconst 1, 1) := by decide +kernel
theorem dX9_holds_35 : decode cX9_holds 35 = .ok (.iadd, 1) := by decide +kernel
theorem dX9_holds_36 : decode cX9_holds 36 = .ok (.iaload, 1) := by decide +kernel
theorem dX9_holds_37 : decode cX9_holds 37 = .ok (.istore 6, 2) := by decide +kernel
theorem dX9_holds_39 : decode cX9_holds 39 = .ok (.aload_n 0, 1) := by decide +kernel
theorem dX9_holds_40 : decode cX9_holds 40 = .ok (.getfield 73, 3) := by decide +kernel
theorem dX9_holds_43 : decode cX9_holds 43 = .ok (.iload 5, 2) := by decide +kernel
theorem dX9_holds_45 : decode cX9_holds 45 = .ok (.iconst 2, 1) := by decide +kernel
theorem dX9_holds_46 : decode cX9_holds 46 = .ok (.iadd, 1) := by decide +kernel
theorem dX9_holds_47 : decode cX9_holds 47 = .ok (.iaload, 1) := by decide +kernel
theorem dX9_holds_48 : decode cX9_holds 48 = .ok (.istore 7, 2) := by decide +kernel
theorem dX9_holds_50 : decode cX9_holds 50 = .ok (.iload 6, 2) := by decide +kernel
theorem dX9_holds_52 : decode cX9_holds 52 = .ok (.iload_n 2, 1) := by decide +kernel
theorem dX9_holds_53 : decode cX9_holds 53 = .ok (.if_icmp .eq 9, 3) := by decide +kernel
theorem dX9_holds_56 : decode cX9_holds 56 = .ok (.iload 7, 2) := by decide +kernel
theorem dX9_holds_58 : decode cX9_holds 58 = .ok (.iload_n 2, 1) := by decide +kernel
theorem dX9_holds_59 : decode cX9_holds 59 = .ok (.if_icmp .ne 39, 3) := by decide +kernel
theorem dX9_holds_62 : decode cX9_holds 62 = .ok (.iload 6, 2) := by decide +kernel
theorem dX9_holds_64 : decode cX9_holds 64 = .ok (.iload_n 2, 1) := by decide +kernel
theorem dX9_holds_65 : decode cX9_holds 65 = .ok (.if_icmp .gt 33, 3) := by decide +kernel
theorem dX9_holds_68 : decode cX9_holds 68 = .ok (.iload 7, 2) := by decide +kernel
theorem dX9_holds_70 : decode cX9_holds 70 = .ok (.iload_n 2, 1) := by decide +kernel
theorem dX9_holds_71 : decode cX9_holds 71 = .ok (.if_icmp .gt 27, 3) := by decide +kernel
theorem dX9_holds_74 : decode cX9_holds 74 = .ok (.iload_n 1, 1) := by decide +kernel
theorem dX9_holds_75 : decode cX9_holds 75 = .ok (.iload 6, 2) := by decide +kernel
theorem dX9_holds_77 : decode cX9_holds 77 = .ok (.ishr, 1) := by decide +kernel
theorem dX9_holds_78 : decode cX9_holds 78 = .ok (.iconst 1, 1) := by decide +kernel
theorem dX9_holds_79 : decode cX9_holds 79 = .ok (.iand, 1) := by decide +kernel
theorem dX9_holds_80 : decode cX9_holds 80 = .ok (.iconst 1, 1) := by decide +kernel
theorem dX9_holds_81 : decode cX9_holds 81 = .ok (.if_icmp .ne 17, 3) := by decide +kernel
theorem dX9_holds_84 : decode cX9_holds 84 = .ok (.iload_n 1, 1) := by decide +kernel
theorem dX9_holds_85 : decode cX9_holds 85 = .ok (.iload 7, 2) := by decide +kernel
theorem dX9_holds_87 : decode cX9_holds 87 = .ok (.ishr, 1) := by decide +kernel
theorem dX9_holds_88 : decode cX9_holds 88 = .ok (.iconst 1, 1) := by decide +kernel
theorem dX9_holds_89 : decode cX9_holds 89 = .ok (.iand, 1) := by decide +kernel
theorem dX9_holds_90 : decode cX9_holds 90 = .ok (.iconst 1, 1) := by decide +kernel
theorem dX9_holds_91 : decode cX9_holds 91 = .ok (.if_icmp .ne 7, 3) := by decide +kernel
theorem dX9_holds_94 : decode cX9_holds 94 = .ok (.iconst 1, 1) := by decide +kernel
theorem dX9_holds_95 : decode cX9_holds 95 = .ok (.goto 4, 3) := by decide +kernel
theorem dX9_holds_98 : decode cX9_holds 98 = .ok (.iconst 0, 1) := by decide +kernel
theorem dX9_holds_99 : decode cX9_holds 99 = .ok (.istore 8, 2) := by decide +kernel
theorem dX9_holds_101 : decode cX9_holds 101 = .ok (.iload 8, 2) := by decide +kernel
theorem dX9_holds_103 : decode cX9_holds 103 = .ok (.ifCond .eq 21, 3) := by decide +kernel
theorem dX9_holds_106 : decode cX9_holds 106 = .ok (.aload_n 0, 1) := by decide +kernel
theorem dX9_holds_107 : decode cX9_holds 107 = .ok (.getfield 88, 3) := by decide +kernel
theorem dX9_holds_110 : decode cX9_holds 110 = .ok (.iload 6, 2) := by decide +kernel
theorem dX9_holds_112 : decode cX9_holds 112 = .ok (.iaload, 1) := by decide +kernel
theorem dX9_holds_113 : decode cX9_holds 113 = .ok (.aload_n 0, 1) := by decide +kernel
theorem dX9_holds_114 : decode cX9_holds 114 = .ok (.getfield 88, 3) := by decide +kernel
theorem dX9_holds_117 : decode cX9_holds 117 = .ok (.iload 7, 2) := by decide +kernel
theorem dX9_holds_119 : decode cX9_holds 119 = .ok (.iaload, 1) := by decide +kernel
theorem dX9_holds_120 : decode cX9_holds 120 = .ok (.isub, 1) := by decide +kernel
theorem dX9_holds_121 : decode cX9_holds 121 = .ok (.goto 4, 3) := by decide +kernel
theorem dX9_holds_124 : decode cX9_holds 124 = .ok (.iconst 0, 1) := by decide +kernel
theorem dX9_holds_125 : decode cX9_holds 125 = .ok (.istore 9, 2) := by decide +kernel
theorem dX9_holds_127 : decode cX9_holds 127 = .ok (.aload_n 0, 1) := by decide +kernel
theorem dX9_holds_128 : decode cX9_holds 128 = .ok (.getfield 73, 3) := by decide +kernel
theorem dX9_holds_131 : decode cX9_holds 131 = .ok (.iload 5, 2) := by decide +kernel
theorem dX9_holds_133 : decode cX9_holds 133 = .ok (.iaload, 1) := by decide +kernel
theorem dX9_holds_134 : decode cX9_holds 134 = .ok (.ifCond .ne 25, 3) := by decide +kernel
theorem dX9_holds_137 : decode cX9_holds 137 = .ok (.iload 9, 2) := by decide +kernel
theorem dX9_holds_139 : decode cX9_holds 139 = .ok (.aload_n 0, 1) := by decide +kernel
theorem dX9_holds_140 : decode cX9_holds 140 = .ok (.getfield 73, 3) := by decide +kernel
theorem dX9_holds_143 : decode cX9_holds 143 = .ok (.iload 5, 2) := by decide +kernel
theorem dX9_holds_145 : decode cX9_holds 145 = .ok (.iconst 3, 1) := by decide +kernel
theorem dX9_holds_146 : decode cX9_holds 146 = .ok (.iadd, 1) := by decide +kernel
theorem dX9_holds_147 : decode cX9_holds 147 = .ok (.iaload, 1) := by decide +kernel
theorem dX9_holds_148 : decode cX9_holds 148 = .ok (.if_icmp .lt 7, 3) := by decide +kernel
theorem dX9_holds_151 : decode cX9_holds 151 = .ok (.iconst 1, 1) := by decide +kernel
theorem dX9_holds_152 : decode cX9_holds 152 = .ok (.goto 31, 3) := by decide +kernel
theorem dX9_holds_155 : decode cX9_holds 155 = .ok (.iconst 0, 1) := by decide +kernel
theorem dX9_holds_156 : decode cX9_holds 156 = .ok (.goto 27, 3) := by decide +kernel
theorem dX9_holds_159 : decode cX9_holds 159 = .ok (.iload 9, 2) := by decide +kernel
theorem dX9_holds_161 : decode cX9_holds 161 = .ok (.aload_n 0, 1) := by decide +kernel
theorem dX9_holds_162 : decode cX9_holds 162 = .ok (.getfield 73, 3) := by decide +kernel
theorem dX9_holds_165 : decode cX9_holds 165 = .ok (.iload 5, 2) := by decide +kernel
theorem dX9_holds_167 : decode cX9_holds 167 = .ok (.iconst 3, 1) := by decide +kernel
theorem dX9_holds_168 : decode cX9_holds 168 = .ok (.iadd, 1) := by decide +kernel
theorem dX9_holds_169 : decode cX9_holds 169 = .ok (.iaload, 1) := by decide +kernel
theorem dX9_holds_170 : decode cX9_holds 170 = .ok (.ineg, 1) := by decide +kernel
theorem dX9_holds_171 : decode cX9_holds 171 = .ok (.aload_n 0, 1) := by decide +kernel
theorem dX9_holds_172 : decode cX9_holds 172 = .ok (.getfield 73, 3) := by decide +kernel
theorem dX9_holds_175 : decode cX9_holds 175 = .ok (.iload 5, 2) := by decide +kernel
theorem dX9_holds_177 : decode cX9_holds 177 = .ok (.iconst 3, 1) := by decide +kernel
theorem dX9_holds_178 : decode cX9_holds 178 = .ok (.iadd, 1) := by decide +kernel
theorem dX9_holds_179 : decode cX9_holds 179 = .ok (.iaload, 1) := by decide +kernel
theorem dX9_holds_180 : decode cX9_holds 180 = .ok (.invokestatic 262, 3) := by decide +kernel
theorem dX9_holds_183 : decode cX9_holds 183 = .ok (.istore 10, 2) := by decide +kernel
theorem dX9_holds_185 : decode cX9_holds 185 = .ok (.iload_n 3, 1) := by decide +kernel
theorem dX9_holds_186 : decode cX9_holds 186 = .ok (.ifCond .eq 17, 3) := by decide +kernel
theorem dX9_holds_189 : decode cX9_holds 189 = .ok (.iload 8, 2) := by decide +kernel
theorem dX9_holds_191 : decode cX9_holds 191 = .ok (.ifCond .eq 8, 3) := by decide +kernel
theorem dX9_holds_194 : decode cX9_holds 194 = .ok (.iload 10, 2) := by decide +kernel
theorem dX9_holds_196 : decode cX9_holds 196 = .ok (.ifCond .eq 7, 3) := by decide +kernel
theorem dX9_holds_199 : decode cX9_holds 199 = .ok (.iconst 1, 1) := by decide +kernel
theorem dX9_holds_200 : decode cX9_holds 200 = .ok (.goto 4, 3) := by decide +kernel
theorem dX9_holds_203 : decode cX9_holds 203 = .ok (.iconst 0, 1) := by decide +kernel
theorem dX9_holds_204 : decode cX9_holds 204 = .ok (.istore_n 3, 1) := by decide +kernel
theorem dX9_holds_205 : decode cX9_holds 205 = .ok (.iinc 4 1, 3) := by decide +kernel
theorem dX9_holds_208 : decode cX9_holds 208 = .ok (.goto (-203), 3) := by decide +kernel
theorem dX9_holds_211 : decode cX9_holds 211 = .ok (.iload_n 3, 1) := by decide +kernel
theorem dX9_holds_212 : decode cX9_holds 212 = .ok (.ireturn, 1) := by decide +kernel
theorem dX9_tries_0 : decode cX9_tries 0 = .ok (.iload_n 2, 1) := by decide +kernel
theorem dX9_tries_1 : decode cX9_tries 1 = .ok (.aload_n 0, 1) := by decide +kernel
theorem dX9_tries_2 : decode cX9_tries 2 = .ok (.invokevirtual 284, 3) := by decide +kernel
theorem dX9_tries_5 : decode cX9_tries 5 = .ok (.if_icmp .ne 34, 3) := by decide +kernel
theorem dX9_tries_8 : decode cX9_tries 8 = .ok (.aload_n 0, 1) := by decide +kernel
theorem dX9_tries_9 : decode cX9_tries 9 = .ok (.dup, 1) := by decide +kernel
theorem dX9_tries_10 : decode cX9_tries 10 = .ok (.getfield 293, 3) := by decide +kernel
theorem dX9_tries_13 : decode cX9_tries 13 = .ok (.iconst 1, 1) := by decide +kernel
theorem dX9_tries_14 : decode cX9_tries 14 = .ok (.iadd, 1) := by decide +kernel
theorem dX9_tries_15 : decode cX9_tries 15 = .ok (.putfield 293, 3) := by decide +kernel
theorem dX9_tries_18 : decode cX9_tries 18 = .ok (.aload_n 0, 1) := by decide +kernel
theorem dX9_tries_19 : decode cX9_tries 19 = .ok (.getfield 293, 3) := by decide +kernel
theorem dX9_tries_22 : decode cX9_tries 22 = .ok (.iconst 1, 1) := by decide +kernel
theorem dX9_tries_23 : decode cX9_tries 23 = .ok (.isub, 1) := by decide +kernel
theorem dX9_tries_24 : decode cX9_tries 24 = .ok (.aload_n 0, 1) := by decide +kernel
theorem dX9_tries_25 : decode cX9_tries 25 = .ok (.getfield 296, 3) := by decide +kernel
theorem dX9_tries_28 : decode cX9_tries 28 = .ok (.if_icmp .ne 5, 3) := by decide +kernel
theorem dX9_tries_31 : decode cX9_tries 31 = .ok (.iconst 1, 1) := by decide +kernel
theorem dX9_tries_32 : decode cX9_tries 32 = .ok (.ireturn, 1) := by decide +kernel
theorem dX9_tries_33 : decode cX9_tries 33 = .ok (.aload_n 0, 1) := by decide +kernel
theorem dX9_tries_34 : decode cX9_tries 34 = .ok (.invokevirtual 299, 3) := by decide +kernel
theorem dX9_tries_37 : decode cX9_tries 37 = .ok (.iconst 0, 1) := by decide +kernel
theorem dX9_tries_38 : decode cX9_tries 38 = .ok (.ireturn, 1) := by decide +kernel
theorem dX9_tries_39 : decode cX9_tries 39 = .ok (.iload_n 1, 1) := by decide +kernel
theorem dX9_tries_40 : decode cX9_tries 40 = .ok (.iload_n 2, 1) := by decide +kernel
theorem dX9_tries_41 : decode cX9_tries 41 = .ok (.ishr, 1) := by decide +kernel
theorem dX9_tries_42 : decode cX9_tries 42 = .ok (.iconst 1, 1) := by decide +kernel
theorem dX9_tries_43 : decode cX9_tries 43 = .ok (.iand, 1) := by decide +kernel
theorem dX9_tries_44 : decode cX9_tries 44 = .ok (.ifCond .ne 12, 3) := by decide +kernel
theorem dX9_tries_47 : decode cX9_tries 47 = .ok (.aload_n 0, 1) := by decide +kernel
theorem dX9_tries_48 : decode cX9_tries 48 = .ok (.iload_n 1, 1) := by decide +kernel
theorem dX9_tries_49 : decode cX9_tries 49 = .ok (.iload_n 2, 1) := by decide +kernel
theorem dX9_tries_50 : decode cX9_tries 50 = .ok (.iconst 1, 1) := by decide +kernel
theorem dX9_tries_51 : decode cX9_tries 51 = .ok (.iadd, 1) := by decide +kernel
theorem dX9_tries_52 : decode cX9_tries 52 = .ok (.invokevirtual 302, 3) := by decide +kernel
theorem dX9_tries_55 : decode cX9_tries 55 = .ok (.ireturn, 1) := by decide +kernel
theorem dX9_tries_56 : decode cX9_tries 56 = .ok (.sipush 1440, 3) := by decide +kernel
theorem dX9_tries_59 : decode cX9_tries 59 = .ok (.aload_n 0, 1) := by decide +kernel
theorem dX9_tries_60 : decode cX9_tries 60 = .ok (.iload_n 2, 1) := by decide +kernel
theorem dX9_tries_61 : decode cX9_tries 61 = .ok (.iconst 1, 1) := by decide +kernel
theorem dX9_tries_62 : decode cX9_tries 62 = .ok (.invokevirtual 290, 3) := by decide +kernel
theorem dX9_tries_65 : decode cX9_tries 65 = .ok (.imul, 1) := by decide +kernel
theorem dX9_tries_66 : decode cX9_tries 66 = .ok (.aload_n 0, 1) := by decide +kernel
theorem dX9_tries_67 : decode cX9_tries 67 = .ok (.iload_n 2, 1) := by decide +kernel
theorem dX9_tries_68 : decode cX9_tries 68 = .ok (.iconst 2, 1) := by decide +kernel
theorem dX9_tries_69 : decode cX9_tries 69 = .ok (.invokevirtual 290, 3) := by decide +kernel
theorem dX9_tries_72 : decode cX9_tries 72 = .ok (.iadd, 1) := by decide +kernel
theorem dX9_tries_73 : decode cX9_tries 73 = .ok (.istore_n 3, 1) := by decide +kernel
theorem dX9_tries_74 : decode cX9_tries 74 = .ok (.aload_n 0, 1) := by decide +kernel
theorem dX9_tries_75 : decode cX9_tries 75 = .ok (.aload_n 0, 1) := by decide +kernel
theorem dX9_tries_76 : decode cX9_tries 76 = .ok (.iload_n 2, 1) := by decide +kernel
theorem dX9_tries_77 : decode cX9_tries 77 = .ok (.iconst 0, 1) := by decide +kernel
theorem dX9_tries_78 : decode cX9_tries 78 = .ok (.invokevirtual 290, 3) := by decide +kernel
theorem dX9_tries_81 : decode cX9_tries 81 = .ok (.iload_n 3, 1) := by decide +kernel
theorem dX9_tries_82 : decode cX9_tries 82 = .ok (.invokevirtual 259, 3) := by decide +kernel
theorem dX9_tries_85 : decode cX9_tries 85 = .ok (.istore 4, 2) := by decide +kernel
theorem dX9_tries_87 : decode cX9_tries 87 = .ok (.iconst 1, 1) := by decide +kernel
theorem dX9_tries_88 : decode cX9_tries 88 = .ok (.istore 5, 2) := by decide +kernel
theorem dX9_tries_90 : decode cX9_tries 90 = .ok (.iload 5, 2) := by decide +kernel
theorem dX9_tries_92 : decode cX9_tries 92 = .ok (.iconst 2, 1) := by decide +kernel
theorem dX9_tries_93 : decode cX9_tries 93 = .ok (.if_icmp .gt 99, 3) := by decide +kernel
theorem dX9_tries_96 : decode cX9_tries 96 = .ok (.aload_n 0, 1) := by decide +kernel
theorem dX9_tries_97 : decode cX9_tries 97 = .ok (.iload_n 2, 1) := by decide +kernel
theorem dX9_tries_98 : decode cX9_tries 98 = .ok (.iconst 3, 1) := by decide +kernel
theorem dX9_tries_99 : decode cX9_tries 99 = .ok (.invokevirtual 290, 3) := by decide +kernel
theorem dX9_tries_102 : decode cX9_tries 102 = .ok (.ifCond .eq 14, 3) := by decide +kernel
theorem dX9_tries_105 : decode cX9_tries 105 = .ok (.aload_n 0, 1) := by decide +kernel
theorem dX9_tries_106 : decode cX9_tries 106 = .ok (.iload_n 2, 1) := by decide +kernel
theorem dX9_tries_107 : decode cX9_tries 107 = .ok (.iconst 3, 1) := by decide +kernel
theorem dX9_tries_108 : decode cX9_tries 108 = .ok (.invokevirtual 290, 3) := by decide +kernel
theorem dX9_tries_111 : decode cX9_tries 111 = .ok (.iload 5, 2) := by decide +kernel
theorem dX9_tries_113 : decode cX9_tries 113 = .ok (.if_icmp .ne 18, 3) := by decide +kernel
theorem dX9_tries_116 : decode cX9_tries 116 = .ok (.iload 5, 2) := by decide +kernel
theorem dX9_tries_118 : decode cX9_tries 118 = .ok (.iconst 1, 1) := by decide +kernel
theorem dX9_tries_119 : decode cX9_tries 119 = .ok (.if_icmp .eq 8, 3) := by decide +kernel
theorem dX9_tries_122 : decode cX9_tries 122 = .ok (.iload 4, 2) := by decide +kernel
theorem dX9_tries_124 : decode cX9_tries 124 = .ok (.ifCond .eq 7, 3) := by decide +kernel
theorem dX9_tries_127 : decode cX9_tries 127 = .ok (.iconst 1, 1) := by decide +kernel
theorem dX9_tries_128 : decode cX9_tries 128 = .ok (.goto 4, 3) := by decide +kernel
theorem dX9_tries_131 : decode cX9_tries 131 = .ok (.iconst 0, 1) := by decide +kernel
theorem dX9_tries_132 : decode cX9_tries 132 = .ok (.istore 6, 2) := by decide +kernel
theorem dX9_tries_134 : decode cX9_tries 134 = .ok (.aload_n 0, 1) := by decide +kernel
theorem dX9_tries_135 : decode cX9_tries 135 = .ok (.getfield 88, 3) := by decide +kernel
theorem dX9_tries_138 : decode cX9_tries 138 = .ok (.iload_n 2, 1) := by decide +kernel
theorem dX9_tries_139 : decode cX9_tries 139 = .ok (.aload_n 0, 1) := by decide +kernel
theorem dX9_tries_140 : decode cX9_tries 140 = .ok (.aload_n 0, 1) := by decide +kernel
theorem dX9_tries_141 : decode cX9_tries 141 = .ok (.iload_n 2, 1) := by decide +kernel
theorem dX9_tries_142 : decode cX9_tries 142 = .ok (.iconst 0, 1) := by decide +kernel
theorem dX9_tries_143 : decode cX9_tries 143 = .ok (.invokevirtual 290, 3) := by decide +kernel
theorem dX9_tries_146 : decode cX9_tries 146 = .ok (.iload_n 3, 1) := by decide +kernel
theorem dX9_tries_147 : decode cX9_tries 147 = .ok (.invokevirtual 256, 3) := by decide +kernel
theorem dX9_tries_150 : decode cX9_tries 150 = .ok (.bipush 60, 2) := by decide +kernel
theorem dX9_tries_152 : decode cX9_tries 152 = .ok (.iload 5, 2) := by decide +kernel
theorem dX9_tries_154 : decode cX9_tries 154 = .ok (.iconst 1, 1) := by decide +kernel
theorem dX9_tries_155 : decode cX9_tries 155 = .ok (.isub, 1) := by decide +kernel
theorem dX9_tries_156 : decode cX9_tries 156 = .ok (.imul, 1) := by decide +kernel
theorem dX9_tries_157 : decode cX9_tries 157 = .ok (.iadd, 1) := by decide +kernel
theorem dX9_tries_158 : decode cX9_tries 158 = .ok (.iastore, 1) := by decide +kernel
theorem dX9_tries_159 : decode cX9_tries 159 = .ok (.iload 6, 2) := by decide +kernel
theorem dX9_tries_161 : decode cX9_tries 161 = .ok (.ifCond .eq 25, 3) := by decide +kernel
theorem dX9_tries_164 : decode cX9_tries 164 = .ok (.aload_n 0, 1) := by decide +kernel
theorem dX9_tries_165 : decode cX9_tries 165 = .ok (.iload_n 1, 1) := by decide +kernel
theorem dX9_tries_166 : decode cX9_tries 166 = .ok (.iload_n 2, 1) := by decide +kernel
theorem dX9_tries_167 : decode cX9_tries 167 = .ok (.invokevirtual 305, 3) := by decide +kernel
theorem dX9_tries_170 : decode cX9_tries 170 = .ok (.ifCond .eq 16, 3) := by decide +kernel
theorem dX9_tries_173 : decode cX9_tries 173 = .ok (.aload_n 0, 1) := by decide +kernel
theorem dX9_tries_174 : decode cX9_tries 174 = .ok (.iload_n 1, 1) := by decide +kernel
theorem dX9_tries_175 : decode cX9_tries 175 = .ok (.iload_n 2, 1) := by decide +kernel
theorem dX9_tries_176 : decode cX9_tries 176 = .ok (.iconst 1, 1) := by decide +kernel
theorem dX9_tries_177 : decode cX9_tries 177 = .ok (.iadd, 1) := by decide +kernel
theorem dX9_tries_178 : decode cX9_tries 178 = .ok (.invokevirtual 302, 3) := by decide +kernel
theorem dX9_tries_181 : decode cX9_tries 181 = .ok (.ifCond .eq 5, 3) := by decide +kernel
theorem dX9_tries_184 : decode cX9_tries 184 = .ok (.iconst 1, 1) := by decide +kernel
theorem dX9_tries_185 : decode cX9_tries 185 = .ok (.ireturn, 1) := by decide +kernel
theorem dX9_tries_186 : decode cX9_tries 186 = .ok (.iinc 5 1, 3) := by decide +kernel
theorem dX9_tries_189 : decode cX9_tries 189 = .ok (.goto (-99), 3) := by decide +kernel
theorem dX9_tries_192 : decode cX9_tries 192 = .ok (.iconst 0, 1) := by decide +kernel
theorem dX9_tries_193 : decode cX9_tries 193 = .ok (.ireturn, 1) := by decide +kernel
theorem dX9_notes_0 : decode cX9_notes 0 = .ok (.iconst 0, 1) := by decide +kernel
theorem dX9_notes_1 : decode cX9_notes 1 = .ok (.istore_n 1, 1) := by decide +kernel
theorem dX9_notes_2 : decode cX9_notes 2 = .ok (.iload_n 1, 1) := by decide +kernel
theorem dX9_notes_3 : decode cX9_notes 3 = .ok (.aload_n 0, 1) := by decide +kernel
theorem dX9_notes_4 : decode cX9_notes 4 = .ok (.invokevirtual 284, 3) := by decide +kernel
theorem dX9_notes_7 : decode cX9_notes 7 = .ok (.if_icmp .ge 189, 3) := by decide +kernel
theorem dX9_notes_10 : decode cX9_notes 10 = .ok (.aload_n 0, 1) := by decide +kernel
theorem dX9_notes_11 : decode cX9_notes 11 = .ok (.getfield 91, 3) := by decide +kernel
theorem dX9_notes_14 : decode cX9_notes 14 = .ok (.iload_n 1, 1) := by decide +kernel
theorem dX9_notes_15 : decode cX9_notes 15 = .ok (.aload_n 0, 1) := by decide +kernel
theorem dX9_notes_16 : decode cX9_notes 16 = .ok (.getfield 293, 3) := by decide +kernel
theorem dX9_notes_19 : decode cX9_notes 19 = .ok (.iconst 1, 1) := by decide +kernel
theorem dX9_notes_20 : decode cX9_notes 20 = .ok (.if_icmp .eq 18, 3) := by decide +kernel
theorem dX9_notes_23 : decode cX9_notes 23 = .ok (.aload_n 0, 1) := by decide +kernel
theorem dX9_notes_24 : decode cX9_notes 24 = .ok (.getfield 88, 3) := by decide +kernel
theorem dX9_notes_27 : decode cX9_notes 27 = .ok (.iload_n 1, 1) := by decide +kernel
theorem dX9_notes_28 : decode cX9_notes 28 = .ok (.iaload, 1) := by decide +kernel
theorem dX9_notes_29 : decode cX9_notes 29 = .ok (.aload_n 0, 1) := by decide +kernel
theorem dX9_notes_30 : decode cX9_notes 30 = .ok (.getfield 91, 3) := by decide +kernel
theorem dX9_notes_33 : decode cX9_notes 33 = .ok (.iload_n 1, 1) := by decide +kernel
theorem dX9_notes_34 : decode cX9_notes 34 = .ok (.iaload, 1) := by decide +kernel
theorem dX9_notes_35 : decode cX9_notes 35 = .ok (.if_icmp .ge 12, 3) := by decide +kernel
theorem dX9_notes_38 : decode cX9_notes 38 = .ok (.aload_n 0, 1) := by decide +kernel
theorem dX9_notes_39 : decode cX9_notes 39 = .ok (.getfield 88, 3) := by decide +kernel
theorem dX9_notes_42 : decode cX9_notes 42 = .ok (.iload_n 1, 1) := by decide +kernel
theorem dX9_notes_43 : decode cX9_notes 43 = .ok (.iaload, 1) := by decide +kernel
theorem dX9_notes_44 : decode cX9_notes 44 = .ok (.goto 9, 3) := by decide +kernel
theorem dX9_notes_47 : decode cX9_notes 47 = .ok (.aload_n 0, 1) := by decide +kernel
theorem dX9_notes_48 : decode cX9_notes 48 = .ok (.getfield 91, 3) := by decide +kernel
theorem dX9_notes_51 : decode cX9_notes 51 = .ok (.iload_n 1, 1) := by decide +kernel
theorem dX9_notes_52 : decode cX9_notes 52 = .ok (.iaload, 1) := by decide +kernel
theorem dX9_notes_53 : decode cX9_notes 53 = .ok (.iastore, 1) := by decide +kernel
theorem dX9_notes_54 : decode cX9_notes 54 = .ok (.aload_n 0, 1) := by decide +kernel
theorem dX9_notes_55 : decode cX9_notes 55 = .ok (.getfield 94, 3) := by decide +kernel
theorem dX9_notes_58 : decode cX9_notes 58 = .ok (.iload_n 1, 1) := by decide +kernel
theorem dX9_notes_59 : decode cX9_notes 59 = .ok (.aload_n 0, 1) := by decide +kernel
theorem dX9_notes_60 : decode cX9_notes 60 = .ok (.getfield 293, 3) := by decide +kernel
theorem dX9_notes_63 : decode cX9_notes 63 = .ok (.iconst 1, 1) := by decide +kernel
theorem dX9_notes_64 : decode cX9_notes 64 = .ok (.if_icmp .eq 18, 3) := by decide +kernel
theorem dX9_notes_67 : decode cX9_notes 67 = .ok (.aload_n 0, 1) := by decide +kernel
theorem dX9_notes_68 : decode cX9_notes 68 = .ok (.getfield 88, 3) := by decide +kernel
theorem dX9_notes_71 : decode cX9_notes 71 = .ok (.iload_n 1, 1) := by decide +kernel
theorem dX9_notes_72 : decode cX9_notes 72 = .ok (.iaload, 1) := by decide +kernel
theorem dX9_notes_73 : decode cX9_notes 73 = .ok (.aload_n 0, 1) := by decide +kernel
theorem dX9_notes_74 : decode cX9_notes 74 = .ok (.getfield 94, 3) := by decide +kernel
theorem dX9_notes_77 : decode cX9_notes 77 = .ok (.iload_n 1, 1) := by decide +kernel
theorem dX9_notes_78 : decode cX9_notes 78 = .ok (.iaload, 1) := by decide +kernel
theorem dX9_notes_79 : decode cX9_notes 79 = .ok (.if_icmp .le 12, 3) := by decide +kernel
theorem dX9_notes_82 : decode cX9_notes 82 = .ok (.aload_n 0, 1) := by decide +kernel
theorem dX9_notes_83 : decode cX9_notes 83 = .ok (.getfield 88, 3) := by decide +kernel
theorem dX9_notes_86 : decode cX9_notes 86 = .ok (.iload_n 1, 1) := by decide +kernel
theorem dX9_notes_87 : decode cX9_notes 87 = .ok (.iaload, 1) := by decide +kernel
theorem dX9_notes_88 : decode cX9_notes 88 = .ok (.goto 9, 3) := by decide +kernel
theorem dX9_notes_91 : decode cX9_notes 91 = .ok (.aload_n 0, 1) := by decide +kernel
theorem dX9_notes_92 : decode cX9_notes 92 = .ok (.getfield 94, 3) := by decide +kernel
theorem dX9_notes_95 : decode cX9_notes 95 = .ok (.iload_n 1, 1) := by decide +kernel
theorem dX9_notes_96 : decode cX9_notes 96 = .ok (.iaload, 1) := by decide +kernel
theorem dX9_notes_97 : decode cX9_notes 97 = .ok (.iastore, 1) := by decide +kernel
theorem dX9_notes_98 : decode cX9_notes 98 = .ok (.iconst 0, 1) := by decide +kernel
theorem dX9_notes_99 : decode cX9_notes 99 = .ok (.istore_n 2, 1) := by decide +kernel
theorem dX9_notes_100 : decode cX9_notes 100 = .ok (.iload_n 2, 1) := by decide +kernel
theorem dX9_notes_101 : decode cX9_notes 101 = .ok (.aload_n 0, 1) := by decide +kernel
theorem dX9_notes_102 : decode cX9_notes 102 = .ok (.invokevirtual 284, 3) := by decide +kernel
theorem dX9_notes_105 : decode cX9_notes 105 = .ok (.if_icmp .ge 85, 3) := by decide +kernel
theorem dX9_notes_108 : decode cX9_notes 108 = .ok (.aload_n 0, 1) := by decide +kernel
theorem dX9_notes_109 : decode cX9_notes 109 = .ok (.getfield 88, 3) := by decide +kernel
theorem dX9_notes_112 : decode cX9_notes 112 = .ok (.iload_n 1, 1) := by decide +kernel
theorem dX9_notes_113 : decode cX9_notes 113 = .ok (.iaload, 1) := by decide +kernel
theorem dX9_notes_114 : decode cX9_notes 114 = .ok (.aload_n 0, 1) := by decide +kernel
theorem dX9_notes_115 : decode cX9_notes 115 = .ok (.getfield 88, 3) := by decide +kernel
theorem dX9_notes_118 : decode cX9_notes 118 = .ok (.iload_n 2, 1) := by decide +kernel
theorem dX9_notes_119 : decode cX9_notes 119 = .ok (.iaload, 1) := by decide +kernel
theorem dX9_notes_120 : decode cX9_notes 120 = .ok (.if_icmp .ge 7, 3) := by decide +kernel
theorem dX9_notes_123 : decode cX9_notes 123 = .ok (.iconst 1, 1) := by decide +kernel
theorem dX9_notes_124 : decode cX9_notes 124 = .ok (.goto 23, 3) := by decide +kernel
theorem dX9_notes_127 : decode cX9_notes 127 = .ok (.aload_n 0, 1) := by decide +kernel
theorem dX9_notes_128 : decode cX9_notes 128 = .ok (.getfield 88, 3) := by decide +kernel
theorem dX9_notes_131 : decode cX9_notes 131 = .ok (.iload_n 1, 1) := by decide +kernel
theorem dX9_notes_132 : decode cX9_notes 132 = .ok (.iaload, 1) := by decide +kernel
theorem dX9_notes_133 : decode cX9_notes 133 = .ok (.aload_n 0, 1) := by decide +kernel
theorem dX9_notes_134 : decode cX9_notes 134 = .ok (.getfield 88, 3) := by decide +kernel
theorem dX9_notes_137 : decode cX9_notes 137 = .ok (.iload_n 2, 1) := by decide +kernel
theorem dX9_notes_138 : decode cX9_notes 138 = .ok (.iaload, 1) := by decide +kernel
theorem dX9_notes_139 : decode cX9_notes 139 = .ok (.if_icmp .ne 7, 3) := by decide +kernel
theorem dX9_notes_142 : decode cX9_notes 142 = .ok (.iconst 2, 1) := by decide +kernel
theorem dX9_notes_143 : decode cX9_notes 143 = .ok (.goto 4, 3) := by decide +kernel
theorem dX9_notes_146 : decode cX9_notes 146 = .ok (.iconst 4, 1) := by decide +kernel
theorem dX9_notes_147 : decode cX9_notes 147 = .ok (.istore_n 3, 1) := by decide +kernel
theorem dX9_notes_148 : decode cX9_notes 148 = .ok (.aload_n 0, 1) := by decide +kernel
theorem dX9_notes_149 : decode cX9_notes 149 = .ok (.getfield 97, 3) := by decide +kernel
theorem dX9_notes_152 : decode cX9_notes 152 = .ok (.bipush 12, 2) := by decide +kernel
theorem dX9_notes_154 : decode cX9_notes 154 = .ok (.iload_n 1, 1) := by decide +kernel
theorem dX9_notes_155 : decode cX9_notes 155 = .ok (.imul, 1) := by decide +kernel
theorem dX9_notes_156 : decode cX9_notes 156 = .ok (.iload_n 2, 1) := by decide +kernel
theorem dX9_notes_157 : decode cX9_notes 157 = .ok (.iadd, 1) := by decide +kernel
theorem dX9_notes_158 : decode cX9_notes 158 = .ok (.aload_n 0, 1) := by decide +kernel
theorem dX9_notes_159 : decode cX9_notes 159 = .ok (.getfield 293, 3) := by decide +kernel
theorem dX9_notes_162 : decode cX9_notes 162 = .ok (.iconst 1, 1) := by decide +kernel
theorem dX9_notes_163 : decode cX9_notes 163 = .ok (.if_icmp .ne 7, 3) := by decide +kernel
theorem dX9_notes_166 : decode cX9_notes 166 = .ok (.iload_n 3, 1) := by decide +kernel
theorem dX9_notes_167 : decode cX9_notes 167 = .ok (.goto 16, 3) := by decide +kernel
theorem dX9_notes_170 : decode cX9_notes 170 = .ok (.aload_n 0, 1) := by decide +kernel
theorem dX9_notes_171 : decode cX9_notes 171 = .ok (.getfield 97, 3) := by decide +kernel
theorem dX9_notes_174 : decode cX9_notes 174 = .ok (.bipush 12, 2) := by decide +kernel
theorem dX9_notes_176 : decode cX9_notes 176 = .ok (.iload_n 1, 1) := by decide +kernel
theorem dX9_notes_177 : decode cX9_notes 177 = .ok (.imul, 1) := by decide +kernel
theorem dX9_notes_178 : decode cX9_notes 178 = .ok (.iload_n 2, 1) := by decide +kernel
theorem dX9_notes_179 : decode cX9_notes 179 = .ok (.iadd, 1) := by decide +kernel
theorem dX9_notes_180 : decode cX9_notes 180 = .ok (.iaload, 1) := by decide +kernel
theorem dX9_notes_181 : decode cX9_notes 181 = .ok (.iload_n 3, 1) := by decide +kernel
theorem dX9_notes_182 : decode cX9_notes 182 = .ok (.ior, 1) := by decide +kernel
theorem dX9_notes_183 : decode cX9_notes 183 = .ok (.iastore, 1) := by decide +kernel
theorem dX9_notes_184 : decode cX9_notes 184 = .ok (.iinc 2 1, 3) := by decide +kernel
theorem dX9_notes_187 : decode cX9_notes 187 = .ok (.goto (-87), 3) := by decide +kernel
theorem dX9_notes_190 : decode cX9_notes 190 = .ok (.iinc 1 1, 3) := by decide +kernel
theorem dX9_notes_193 : decode cX9_notes 193 = .ok (.goto (-191), 3) := by decide +kernel
theorem dX9_notes_196 : decode cX9_notes 196 = .ok (.return_, 1) := by decide +kernel
theorem dX9_findWorld_0 : decode cX9_findWorld 0 = .ok (.aload_n 0, 1) := by decide +kernel
theorem dX9_findWorld_1 : decode cX9_findWorld 1 = .ok (.iconst 0, 1) := by decide +kernel
theorem dX9_findWorld_2 : decode cX9_findWorld 2 = .ok (.putfield 293, 3) := by decide +kernel
theorem dX9_findWorld_5 : decode cX9_findWorld 5 = .ok (.aload_n 0, 1) := by decide +kernel
theorem dX9_findWorld_6 : decode cX9_findWorld 6 = .ok (.iload_n 2, 1) := by decide +kernel
theorem dX9_findWorld_7 : decode cX9_findWorld 7 = .ok (.putfield 296, 3) := by decide +kernel
theorem dX9_findWorld_10 : decode cX9_findWorld 10 = .ok (.aload_n 0, 1) := by decide +kernel
theorem dX9_findWorld_11 : decode cX9_findWorld 11 = .ok (.iload_n 1, 1) := by decide +kernel
theorem dX9_findWorld_12 : decode cX9_findWorld 12 = .ok (.iconst 0, 1) := by decide +kernel
theorem dX9_findWorld_13 : decode cX9_findWorld 13 = .ok (.invokevirtual 302, 3) := by decide +kernel
theorem dX9_findWorld_16 : decode cX9_findWorld 16 = .ok (.ireturn, 1) := by decide +kernel
theorem dX9_allPapers_0 : decode cX9_allPapers 0 = .ok (.iconst 1, 1) := by decide +kernel
theorem dX9_allPapers_1 : decode cX9_allPapers 1 = .ok (.aload_n 0, 1) := by decide +kernel
theorem dX9_allPapers_2 : decode cX9_allPapers 2 = .ok (.invokevirtual 284, 3) := by decide +kernel
theorem dX9_allPapers_5 : decode cX9_allPapers 5 = .ok (.ishl, 1) := by decide +kernel
theorem dX9_allPapers_6 : decode cX9_allPapers 6 = .ok (.iconst 1, 1) := by decide +kernel
theorem dX9_allPapers_7 : decode cX9_allPapers 7 = .ok (.isub, 1) := by decide +kernel
theorem dX9_allPapers_8 : decode cX9_allPapers 8 = .ok (.ireturn, 1) := by decide +kernel
theorem dX9_worlds_0 : decode cX9_worlds 0 = .ok (.aload_n 0, 1) := by decide +kernel
theorem dX9_worlds_1 : decode cX9_worlds 1 = .ok (.iconst 0, 1) := by decide +kernel
theorem dX9_worlds_2 : decode cX9_worlds 2 = .ok (.putfield 1, 3) := by decide +kernel
theorem dX9_worlds_5 : decode cX9_worlds 5 = .ok (.aload_n 0, 1) := by decide +kernel
theorem dX9_worlds_6 : decode cX9_worlds 6 = .ok (.aload_n 0, 1) := by decide +kernel
theorem dX9_worlds_7 : decode cX9_worlds 7 = .ok (.invokevirtual 308, 3) := by decide +kernel
theorem dX9_worlds_10 : decode cX9_worlds 10 = .ok (.iconst (-1), 1) := by decide +kernel
theorem dX9_worlds_11 : decode cX9_worlds 11 = .ok (.invokevirtual 311, 3) := by decide +kernel
theorem dX9_worlds_14 : decode cX9_worlds 14 = .ok (.pop, 1) := by decide +kernel
theorem dX9_worlds_15 : decode cX9_worlds 15 = .ok (.aload_n 0, 1) := by decide +kernel
theorem dX9_worlds_16 : decode cX9_worlds 16 = .ok (.getfield 293, 3) := by decide +kernel
theorem dX9_worlds_19 : decode cX9_worlds 19 = .ok (.ireturn, 1) := by decide +kernel
theorem dX9_world_0 : decode cX9_world 0 = .ok (.aload_n 0, 1) := by decide +kernel
theorem dX9_world_1 : decode cX9_world 1 = .ok (.iconst 0, 1) := by decide +kernel
theorem dX9_world_2 : decode cX9_world 2 = .ok (.putfield 1, 3) := by decide +kernel
theorem dX9_world_5 : decode cX9_world 5 = .ok (.iload_n 1, 1) := by decide +kernel
theorem dX9_world_6 : decode cX9_world 6 = .ok (.ifCond .lt 32, 3) := by decide +kernel
theorem dX9_world_9 : decode cX9_world 9 = .ok (.aload_n 0, 1) := by decide +kernel
theorem dX9_world_10 : decode cX9_world 10 = .ok (.iload_n 2, 1) := by decide +kernel
theorem dX9_world_11 : decode cX9_world 11 = .ok (.invokevirtual 287, 3) := by decide +kernel
theorem dX9_world_14 : decode cX9_world 14 = .ok (.ifCond .eq 24, 3) := by decide +kernel
theorem dX9_world_17 : decode cX9_world 17 = .ok (.aload_n 0, 1) := by decide +kernel
theorem dX9_world_18 : decode cX9_world 18 = .ok (.aload_n 0, 1) := by decide +kernel
theorem dX9_world_19 : decode cX9_world 19 = .ok (.invokevirtual 308, 3) := by decide +kernel
theorem dX9_world_22 : decode cX9_world 22 = .ok (.iload_n 1, 1) := by decide +kernel
theorem dX9_world_23 : decode cX9_world 23 = .ok (.invokevirtual 311, 3) := by decide +kernel
theorem dX9_world_26 : decode cX9_world 26 = .ok (.ifCond .eq 12, 3) := by decide +kernel
theorem dX9_world_29 : decode cX9_world 29 = .ok (.aload_n 0, 1) := by decide +kernel
theorem dX9_world_30 : decode cX9_world 30 = .ok (.getfield 88, 3) := by decide +kernel
theorem dX9_world_33 : decode cX9_world 33 = .ok (.iload_n 2, 1) := by decide +kernel
theorem dX9_world_34 : decode cX9_world 34 = .ok (.iaload, 1) := by decide +kernel
theorem dX9_world_35 : decode cX9_world 35 = .ok (.goto 4, 3) := by decide +kernel
theorem dX9_world_38 : decode cX9_world 38 = .ok (.iconst (-1), 1) := by decide +kernel
theorem dX9_world_39 : decode cX9_world 39 = .ok (.ireturn, 1) := by decide +kernel
theorem dX9_sure_0 : decode cX9_sure 0 = .ok (.aload_n 0, 1) := by decide +kernel
theorem dX9_sure_1 : decode cX9_sure 1 = .ok (.iconst 0, 1) := by decide +kernel
theorem dX9_sure_2 : decode cX9_sure 2 = .ok (.putfield 1, 3) := by decide +kernel
theorem dX9_sure_5 : decode cX9_sure 5 = .ok (.aload_n 0, 1) := by decide +kernel
theorem dX9_sure_6 : decode cX9_sure 6 = .ok (.iload_n 1, 1) := by decide +kernel
theorem dX9_sure_7 : decode cX9_sure 7 = .ok (.invokevirtual 287, 3) := by decide +kernel
theorem dX9_sure_10 : decode cX9_sure 10 = .ok (.ifCond .ne 5, 3) := by decide +kernel
theorem dX9_sure_13 : decode cX9_sure 13 = .ok (.iconst (-1), 1) := by decide +kernel
theorem dX9_sure_14 : decode cX9_sure 14 = .ok (.ireturn, 1) := by decide +kernel
theorem dX9_sure_15 : decode cX9_sure 15 = .ok (.aload_n 0, 1) := by decide +kernel
theorem dX9_sure_16 : decode cX9_sure 16 = .ok (.aload_n 0, 1) := by decide +kernel
theorem dX9_sure_17 : decode cX9_sure 17 = .ok (.invokevirtual 308, 3) := by decide +kernel
theorem dX9_sure_20 : decode cX9_sure 20 = .ok (.iconst (-1), 1) := by decide +kernel
theorem dX9_sure_21 : decode cX9_sure 21 = .ok (.invokevirtual 311, 3) := by decide +kernel
theorem dX9_sure_24 : decode cX9_sure 24 = .ok (.pop, 1) := by decide +kernel
theorem dX9_sure_25 : decode cX9_sure 25 = .ok (.aload_n 0, 1) := by decide +kernel
theorem dX9_sure_26 : decode cX9_sure 26 = .ok (.getfield 293, 3) := by decide +kernel
theorem dX9_sure_29 : decode cX9_sure 29 = .ok (.ifCond .le 27, 3) := by decide +kernel
theorem dX9_sure_32 : decode cX9_sure 32 = .ok (.aload_n 0, 1) := by decide +kernel
theorem dX9_sure_33 : decode cX9_sure 33 = .ok (.getfield 91, 3) := by decide +kernel
theorem dX9_sure_36 : decode cX9_sure 36 = .ok (.iload_n 1, 1) := by decide +kernel
theorem dX9_sure_37 : decode cX9_sure 37 = .ok (.iaload, 1) := by decide +kernel
theorem dX9_sure_38 : decode cX9_sure 38 = .ok (.aload_n 0, 1) := by decide +kernel
theorem dX9_sure_39 : decode cX9_sure 39 = .ok (.getfield 94, 3) := by decide +kernel
theorem dX9_sure_42 : decode cX9_sure 42 = .ok (.iload_n 1, 1) := by decide +kernel
theorem dX9_sure_43 : decode cX9_sure 43 = .ok (.iaload, 1) := by decide +kernel
theorem dX9_sure_44 : decode cX9_sure 44 = .ok (.if_icmp .ne 12, 3) := by decide +kernel
theorem dX9_sure_47 : decode cX9_sure 47 = .ok (.aload_n 0, 1) := by decide +kernel
theorem dX9_sure_48 : decode cX9_sure 48 = .ok (.getfield 91, 3) := by decide +kernel
theorem dX9_sure_51 : decode cX9_sure 51 = .ok (.iload_n 1, 1) := by decide +kernel
theorem dX9_sure_52 : decode cX9_sure 52 = .ok (.iaload, 1) := by decide +kernel
theorem dX9_sure_53 : decode cX9_sure 53 = .ok (.goto 4, 3) := by decide +kernel
theorem dX9_sure_56 : decode cX9_sure 56 = .ok (.iconst (-1), 1) := by decide +kernel
theorem dX9_sure_57 : decode cX9_sure 57 = .ok (.ireturn, 1) := by decide +kernel
theorem dX9_before_0 : decode cX9_before 0 = .ok (.aload_n 0, 1) := by decide +kernel
theorem dX9_before_1 : decode cX9_before 1 = .ok (.iconst 0, 1) := by decide +kernel
theorem dX9_before_2 : decode cX9_before 2 = .ok (.putfield 1, 3) := by decide +kernel
theorem dX9_before_5 : decode cX9_before 5 = .ok (.aload_n 0, 1) := by decide +kernel
theorem dX9_before_6 : decode cX9_before 6 = .ok (.iload_n 1, 1) := by decide +kernel
theorem dX9_before_7 : decode cX9_before 7 = .ok (.invokevirtual 287, 3) := by decide +kernel
theorem dX9_before_10 : decode cX9_before 10 = .ok (.ifCond .eq 16, 3) := by decide +kernel
theorem dX9_before_13 : decode cX9_before 13 = .ok (.aload_n 0, 1) := by decide +kernel
theorem dX9_before_14 : decode cX9_before 14 = .ok (.iload_n 2, 1) := by decide +kernel
theorem dX9_before_15 : decode cX9_before 15 = .ok (.invokevirtual 287, 3) := by decide +kernel
theorem dX9_before_18 : decode cX9_before 18 = .ok (.ifCond .eq 8, 3) := by decide +kernel
theorem dX9_before_21 : decode cX9_before 21 = .ok (.iload_n 1, 1) := by decide +kernel
theorem dX9_before_22 : decode cX9_before 22 = .ok (.iload_n 2, 1) := by decide +kernel
theorem dX9_before_23 : decode cX9_before 23 = .ok (.if_icmp .ne 5, 3) := by decide +kernel
theorem dX9_before_26 : decode cX9_before 26 = .ok (.iconst (-1), 1) := by decide +kernel
theorem dX9_before_27 : decode cX9_before 27 = .ok (.ireturn, 1) := by decide +kernel
theorem dX9_before_28 : decode cX9_before 28 = .ok (.aload_n 0, 1) := by decide +kernel
theorem dX9_before_29 : decode cX9_before 29 = .ok (.aload_n 0, 1) := by decide +kernel
theorem dX9_before_30 : decode cX9_before 30 = .ok (.invokevirtual 308, 3) := by decide +kernel
theorem dX9_before_33 : decode cX9_before 33 = .ok (.iconst (-1), 1) := by decide +kernel
theorem dX9_before_34 : decode cX9_before 34 = .ok (.invokevirtual 311, 3) := by decide +kernel
theorem dX9_before_37 : decode cX9_before 37 = .ok (.pop, 1) := by decide +kernel
theorem dX9_before_38 : decode cX9_before 38 = .ok (.aload_n 0, 1) := by decide +kernel
theorem dX9_before_39 : decode cX9_before 39 = .ok (.getfield 293, 3) := by decide +kernel
theorem dX9_before_42 : decode cX9_before 42 = .ok (.ifCond .ne 7, 3) := by decide +kernel
theorem dX9_before_45 : decode cX9_before 45 = .ok (.iconst 0, 1) := by decide +kernel
theorem dX9_before_46 : decode cX9_before 46 = .ok (.goto 14, 3) := by decide +kernel
theorem dX9_before_49 : decode cX9_before 49 = .ok (.aload_n 0, 1) := by decide +kernel
theorem dX9_before_50 : decode cX9_before 50 = .ok (.getfield 97, 3) := by decide +kernel
theorem dX9_before_53 : decode cX9_before 53 = .ok (.bipush 12, 2) := by decide +kernel
theorem dX9_before_55 : decode cX9_before 55 = .ok (.iload_n 1, 1) := by decide +kernel
theorem dX9_before_56 : decode cX9_before 56 = .ok (.imul, 1) := by decide +kernel
theorem dX9_before_57 : decode cX9_before 57 = .ok (.iload_n 2, 1) := by decide +kernel
theorem dX9_before_58 : decode cX9_before 58 = .ok (.iadd, 1) := by decide +kernel
theorem dX9_before_59 : decode cX9_before 59 = .ok (.iaload, 1) := by decide +kernel
theorem dX9_before_60 : decode cX9_before 60 = .ok (.ireturn, 1) := by decide +kernel
theorem dX9_bits_0 : decode cX9_bits 0 = .ok (.iconst 0, 1) := by decide +kernel
theorem dX9_bits_1 : decode cX9_bits 1 = .ok (.istore_n 1, 1) := by decide +kernel
theorem dX9_bits_2 : decode cX9_bits 2 = .ok (.iconst 0, 1) := by decide +kernel
theorem dX9_bits_3 : decode cX9_bits 3 = .ok (.istore_n 2, 1) := by decide +kernel
theorem dX9_bits_4 : decode cX9_bits 4 = .ok (.iload_n 2, 1) := by decide +kernel
theorem dX9_bits_5 : decode cX9_bits 5 = .ok (.bipush 12, 2) := by decide +kernel
theorem dX9_bits_7 : decode cX9_bits 7 = .ok (.if_icmp .ge 17, 3) := by decide +kernel
theorem dX9_bits_10 : decode cX9_bits 10 = .ok (.iload_n 1, 1) := by decide +kernel
theorem dX9_bits_11 : decode cX9_bits 11 = .ok (.iload_n 0, 1) := by decide +kernel
theorem dX9_bits_12 : decode cX9_bits 12 = .ok (.iload_n 2, 1) := by decide +kernel
theorem dX9_bits_13 : decode cX9_bits 13 = .ok (.ishr, 1) := by decide +kernel
theorem dX9_bits_14 : decode cX9_bits 14 = .ok (.iconst 1, 1) := by decide +kernel
theorem dX9_bits_15 : decode cX9_bits 15 = .ok (.iand, 1) := by decide +kernel
theorem dX9_bits_16 : decode cX9_bits 16 = .ok (.iadd, 1) := by decide +kernel
theorem dX9_bits_17 : decode cX9_bits 17 = .ok (.istore_n 1, 1) := by decide +kernel
theorem dX9_bits_18 : decode cX9_bits 18 = .ok (.iinc 2 1, 3) := by decide +kernel
theorem dX9_bits_21 : decode cX9_bits 21 = .ok (.goto (-17), 3) := by decide +kernel
theorem dX9_bits_24 : decode cX9_bits 24 = .ok (.iload_n 1, 1) := by decide +kernel
theorem dX9_bits_25 : decode cX9_bits 25 = .ok (.ireturn, 1) := by decide +kernel
theorem dX9_together_0 : decode cX9_together 0 = .ok (.aload_n 0, 1) := by decide +kernel
theorem dX9_together_1 : decode cX9_together 1 = .ok (.iconst 0, 1) := by decide +kernel
theorem dX9_together_2 : decode cX9_together 2 = .ok (.putfield 1, 3) := by decide +kernel
theorem dX9_together_5 : decode cX9_together 5 = .ok (.aload_n 0, 1) := by decide +kernel
theorem dX9_together_6 : decode cX9_together 6 = .ok (.aload_n 0, 1) := by decide +kernel
theorem dX9_together_7 : decode cX9_together 7 = .ok (.invokevirtual 308, 3) := by decide +kernel
theorem dX9_together_10 : decode cX9_together 10 = .ok (.iconst 0, 1) := by decide +kernel
theorem dX9_together_11 : decode cX9_together 11 = .ok (.invokevirtual 311, 3) := by decide +kernel
theorem dX9_together_14 : decode cX9_together 14 = .ok (.ifCond .eq 5, 3) := by decide +kernel
theorem dX9_together_17 : decode cX9_together 17 = .ok (.iconst (-1), 1) := by decide +kernel
theorem dX9_together_18 : decode cX9_together 18 = .ok (.ireturn, 1) := by decide +kernel
theorem dX9_together_19 : decode cX9_together 19 = .ok (.iconst 1, 1) := by decide +kernel
theorem dX9_together_20 : decode cX9_together 20 = .ok (.istore_n 1, 1) := by decide +kernel
theorem dX9_together_21 : decode cX9_together 21 = .ok (.iload_n 1, 1) := by decide +kernel
theorem dX9_together_22 : decode cX9_together 22 = .ok (.aload_n 0, 1) := by decide +kernel
theorem dX9_together_23 : decode cX9_together 23 = .ok (.invokevirtual 284, 3) := by decide +kernel
theorem dX9_together_26 : decode cX9_together 26 = .ok (.if_icmp .gt 44, 3) := by decide +kernel
theorem dX9_together_29 : decode cX9_together 29 = .ok (.iconst 1, 1) := by decide +kernel
theorem dX9_together_30 : decode cX9_together 30 = .ok (.istore_n 2, 1) := by decide +kernel
theorem dX9_together_31 : decode cX9_together 31 = .ok (.iload_n 2, 1) := by decide +kernel
theorem dX9_together_32 : decode cX9_together 32 = .ok (.aload_n 0, 1) := by decide +kernel
theorem dX9_together_33 : decode cX9_together 33 = .ok (.invokevirtual 308, 3) := by decide +kernel
theorem dX9_together_36 : decode cX9_together 36 = .ok (.if_icmp .gt 28, 3) := by decide +kernel
theorem dX9_together_39 : decode cX9_together 39 = .ok (.iload_n 2, 1) := by decide +kernel
theorem dX9_together_40 : decode cX9_together 40 = .ok (.invokestatic 314, 3) := by decide +kernel
theorem dX9_together_43 : decode cX9_together 43 = .ok (.iload_n 1, 1) := by decide +kernel
theorem dX9_together_44 : decode cX9_together 44 = .ok (.if_icmp .ne 14, 3) := by decide +kernel
theorem dX9_together_47 : decode cX9_together 47 = .ok (.aload_n 0, 1) := by decide +kernel
theorem dX9_together_48 : decode cX9_together 48 = .ok (.iload_n 2, 1) := by decide +kernel
theorem dX9_together_49 : decode cX9_together 49 = .ok (.iconst 0, 1) := by decide +kernel
theorem dX9_together_50 : decode cX9_together 50 = .ok (.invokevirtual 311, 3) := by decide +kernel
theorem dX9_together_53 : decode cX9_together 53 = .ok (.ifCond .ne 5, 3) := by decide +kernel
theorem dX9_together_56 : decode cX9_together 56 = .ok (.iload_n 2, 1) := by decide +kernel
theorem dX9_together_57 : decode cX9_together 57 = .ok (.ireturn, 1) := by decide +kernel
theorem dX9_together_58 : decode cX9_together 58 = .ok (.iinc 2 1, 3) := by decide +kernel
theorem dX9_together_61 : decode cX9_together 61 = .ok (.goto (-30), 3) := by decide +kernel
theorem dX9_together_64 : decode cX9_together 64 = .ok (.iinc 1 1, 3) := by decide +kernel
theorem dX9_together_67 : decode cX9_together 67 = .ok (.goto (-46), 3) := by decide +kernel
theorem dX9_together_70 : decode cX9_together 70 = .ok (.iconst (-1), 1) := by decide +kernel
theorem dX9_together_71 : decode cX9_together 71 = .ok (.ireturn, 1) := by decide +kernel
theorem dX9_open_0 : decode cX9_open 0 = .ok (.aload_n 0, 1) := by decide +kernel
theorem dX9_open_1 : decode cX9_open 1 = .ok (.iconst 0, 1) := by decide +kernel
theorem dX9_open_2 : decode cX9_open 2 = .ok (.putfield 1, 3) := by decide +kernel
theorem dX9_open_5 : decode cX9_open 5 = .ok (.aload_n 0, 1) := by decide +kernel
theorem dX9_open_6 : decode cX9_open 6 = .ok (.aload_n 0, 1) := by decide +kernel
theorem dX9_open_7 : decode cX9_open 7 = .ok (.invokevirtual 308, 3) := by decide +kernel
theorem dX9_open_10 : decode cX9_open 10 = .ok (.iconst (-1), 1) := by decide +kernel
theorem dX9_open_11 : decode cX9_open 11 = .ok (.invokevirtual 311, 3) := by decide +kernel
theorem dX9_open_14 : decode cX9_open 14 = .ok (.pop, 1) := by decide +kernel
theorem dX9_open_15 : decode cX9_open 15 = .ok (.iconst 0, 1) := by decide +kernel
theorem dX9_open_16 : decode cX9_open 16 = .ok (.istore_n 1, 1) := by decide +kernel
theorem dX9_open_17 : decode cX9_open 17 = .ok (.iconst 0, 1) := by decide +kernel
theorem dX9_open_18 : decode cX9_open 18 = .ok (.istore_n 2, 1) := by decide +kernel
theorem dX9_open_19 : decode cX9_open 19 = .ok (.iload_n 2, 1) := by decide +kernel
theorem dX9_open_20 : decode cX9_open 20 = .ok (.aload_n 0, 1) := by decide +kernel
theorem dX9_open_21 : decode cX9_open 21 = .ok (.invokevirtual 284, 3) := by decide +kernel
theorem dX9_open_24 : decode cX9_open 24 = .ok (.if_icmp .ge 34, 3) := by decide +kernel
theorem dX9_open_27 : decode cX9_open 27 = .ok (.iload_n 1, 1) := by decide +kernel
theorem dX9_open_28 : decode cX9_open 28 = .ok (.aload_n 0, 1) := by decide +kernel
theorem dX9_open_29 : decode cX9_open 29 = .ok (.getfield 91, 3) := by decide +kernel
theorem dX9_open_32 : decode cX9_open 32 = .ok (.iload_n 2, 1) := by decide +kernel
theorem dX9_open_33 : decode cX9_open 33 = .ok (.iaload, 1) := by decide +kernel
theorem dX9_open_34 : decode cX9_open 34 = .ok (.aload_n 0, 1) := by decide +kernel
theorem dX9_open_35 : decode cX9_open 35 = .ok (.getfield 94, 3) := by decide +kernel
theorem dX9_open_38 : decode cX9_open 38 = .ok (.iload_n 2, 1) := by decide +kernel
theorem dX9_open_39 : decode cX9_open 39 = .ok (.iaload, 1) := by decide +kernel
theorem dX9_open_40 : decode cX9_open 40 = .ok (.if_icmp .ge 9, 3) := by decide +kernel
theorem dX9_open_43 : decode cX9_open 43 = .ok (.iconst 1, 1) := by decide +kernel
theorem dX9_open_44 : decode cX9_open 44 = .ok (.iload_n 2, 1) := by decide +kernel
theorem dX9_open_45 : decode cX9_open 45 = .ok (.ishl, 1) := by decide +kernel
theorem dX9_open_46 : decode cX9_open 46 = .ok (.goto 4, 3) := by decide +kernel
theorem dX9_open_49 : decode cX9_open 49 = .ok (.iconst 0, 1) := by decide +kernel
theorem dX9_open_50 : decode cX9_open 50 = .ok (.ior, 1) := by decide +kernel
theorem dX9_open_51 : decode cX9_open 51 = .ok (.istore_n 1, 1) := by decide +kernel
theorem dX9_open_52 : decode cX9_open 52 = .ok (.iinc 2 1, 3) := by decide +kernel
theorem dX9_open_55 : decode cX9_open 55 = .ok (.goto (-36), 3) := by decide +kernel
theorem dX9_open_58 : decode cX9_open 58 = .ok (.aload_n 0, 1) := by decide +kernel
theorem dX9_open_59 : decode cX9_open 59 = .ok (.getfield 293, 3) := by decide +kernel
theorem dX9_open_62 : decode cX9_open 62 = .ok (.ifCond .ne 7, 3) := by decide +kernel
theorem dX9_open_65 : decode cX9_open 65 = .ok (.iconst (-1), 1) := by decide +kernel
theorem dX9_open_66 : decode cX9_open 66 = .ok (.goto 4, 3) := by decide +kernel
theorem dX9_open_69 : decode cX9_open 69 = .ok (.iload_n 1, 1) := by decide +kernel
theorem dX9_open_70 : decode cX9_open 70 = .ok (.ireturn, 1) := by decide +kernel
theorem dX9_works_0 : decode cX9_works 0 = .ok (.aload_n 0, 1) := by decide +kernel
theorem dX9_works_1 : decode cX9_works 1 = .ok (.getfield 73, 3) := by decide +kernel
theorem dX9_works_4 : decode cX9_works 4 = .ok (.bipush 85, 2) := by decide +kernel
theorem dX9_works_6 : decode cX9_works 6 = .ok (.iaload, 1) := by decide +kernel
theorem dX9_works_7 : decode cX9_works 7 = .ok (.ireturn, 1) := by decide +kernel
theorem dX9_workOf_0 : decode cX9_workOf 0 = .ok (.aload_n 0, 1) := by decide +kernel
theorem dX9_workOf_1 : decode cX9_workOf 1 = .ok (.getfield 73, 3) := by decide +kernel
theorem dX9_workOf_4 : decode cX9_workOf 4 = .ok (.bipush 86, 2) := by decide +kernel
theorem dX9_workOf_6 : decode cX9_workOf 6 = .ok (.iconst 5, 1) := by decide +kernel
theorem dX9_workOf_7 : decode cX9_workOf 7 = .ok (.iload_n 1, 1) := by decide +kernel
theorem dX9_workOf_8 : decode cX9_workOf 8 = .ok (.imul, 1) := by decide +kernel
theorem dX9_workOf_9 : decode cX9_workOf 9 = .ok (.iadd, 1) := by decide +kernel
theorem dX9_workOf_10 : decode cX9_workOf 10 = .ok (.iload_n 2, 1) := by decide +kernel
theorem dX9_workOf_11 : decode cX9_workOf 11 = .ok (.iadd, 1) := by decide +kernel
theorem dX9_workOf_12 : decode cX9_workOf 12 = .ok (.iaload, 1) := by decide +kernel
theorem dX9_workOf_13 : decode cX9_workOf 13 = .ok (.ireturn, 1) := by decide +kernel
theorem dX9_work_0 : decode cX9_work 0 = .ok (.aload_n 0, 1) := by decide +kernel
theorem dX9_work_1 : decode cX9_work 1 = .ok (.iconst 0, 1) := by decide +kernel
theorem dX9_work_2 : decode cX9_work 2 = .ok (.putfield 1, 3) := by decide +kernel
theorem dX9_work_5 : decode cX9_work 5 = .ok (.iload_n 1, 1) := by decide +kernel
theorem dX9_work_6 : decode cX9_work 6 = .ok (.ifCond .lt 29, 3) := by decide +kernel
theorem dX9_work_9 : decode cX9_work 9 = .ok (.iload_n 1, 1) := by decide +kernel
theorem dX9_work_10 : decode cX9_work 10 = .ok (.aload_n 0, 1) := by decide +kernel
theorem dX9_work_11 : decode cX9_work 11 = .ok (.invokevirtual 317, 3) := by decide +kernel
theorem dX9_work_14 : decode cX9_work 14 = .ok (.if_icmp .ge 21, 3) := by decide +kernel
theorem dX9_work_17 : decode cX9_work 17 = .ok (.iload_n 2, 1) := by decide +kernel
theorem dX9_work_18 : decode cX9_work 18 = .ok (.iconst 0, 1) := by decide +kernel
theorem dX9_work_19 : decode cX9_work 19 = .ok (.iconst 4, 1) := by decide +kernel
theorem dX9_work_20 : decode cX9_work 20 = .ok (.invokestatic 262, 3) := by decide +kernel
theorem dX9_work_23 : decode cX9_work 23 = .ok (.ifCond .eq 12, 3) := by decide +kernel
theorem dX9_work_26 : decode cX9_work 26 = .ok (.aload_n 0, 1) := by decide +kernel
theorem dX9_work_27 : decode cX9_work 27 = .ok (.iload_n 1, 1) := by decide +kernel
theorem dX9_work_28 : decode cX9_work 28 = .ok (.iload_n 2, 1) := by decide +kernel
theorem dX9_work_29 : decode cX9_work 29 = .ok (.invokevirtual 320, 3) := by decide +kernel
theorem dX9_work_32 : decode cX9_work 32 = .ok (.goto 4, 3) := by decide +kernel
theorem dX9_work_35 : decode cX9_work 35 = .ok (.iconst (-1), 1) := by decide +kernel
theorem dX9_work_36 : decode cX9_work 36 = .ok (.ireturn, 1) := by decide +kernel
theorem dX9_beginFrom_0 : decode cX9_beginFrom 0 = .ok (.aload_n 0, 1) := by decide +kernel
theorem dX9_beginFrom_1 : decode cX9_beginFrom 1 = .ok (.iload_n 1, 1) := by decide +kernel
theorem dX9_beginFrom_2 : decode cX9_beginFrom 2 = .ok (.iconst 0, 1) := by decide +kernel
theorem dX9_beginFrom_3 : decode cX9_beginFrom 3 = .ok (.invokevirtual 320, 3) := by decide +kernel
theorem dX9_beginFrom_6 : decode cX9_beginFrom 6 = .ok (.istore_n 3, 1) := by decide +kernel
theorem dX9_beginFrom_7 : decode cX9_beginFrom 7 = .ok (.aload_n 0, 1) := by decide +kernel
theorem dX9_beginFrom_8 : decode cX9_beginFrom 8 = .ok (.iconst 0, 1) := by decide +kernel
theorem dX9_beginFrom_9 : decode cX9_beginFrom 9 = .ok (.sipush 1440, 3) := by decide +kernel
theorem dX9_beginFrom_12 : decode cX9_beginFrom 12 = .ok (.iload_n 3, 1) := by decide +kernel
theorem dX9_beginFrom_13 : decode cX9_beginFrom 13 = .ok (.imul, 1) := by decide +kernel
theorem dX9_beginFrom_14 : decode cX9_beginFrom 14 = .ok (.aload_n 0, 1) := by decide +kernel
theorem dX9_beginFrom_15 : decode cX9_beginFrom 15 = .ok (.iload_n 1, 1) := by decide +kernel
theorem dX9_beginFrom_16 : decode cX9_beginFrom 16 = .ok (.iconst 1, 1) := by decide +kernel
theorem dX9_beginFrom_17 : decode cX9_beginFrom 17 = .ok (.invokevirtual 320, 3) := by decide +kernel
theorem dX9_beginFrom_20 : decode cX9_beginFrom 20 = .ok (.iadd, 1) := by decide +kernel
theorem dX9_beginFrom_21 : decode cX9_beginFrom 21 = .ok (.invokevirtual 256, 3) := by decide +kernel
theorem dX9_beginFrom_24 : decode cX9_beginFrom 24 = .ok (.istore 4, 2) := by decide +kernel
theorem dX9_beginFrom_26 : decode cX9_beginFrom 26 = .ok (.iload 4, 2) := by decide +kernel
theorem dX9_beginFrom_28 : decode cX9_beginFrom 28 = .ok (.iload_n 2, 1) := by decide +kernel
theorem dX9_beginFrom_29 : decode cX9_beginFrom 29 = .ok (.if_icmp .ge 7, 3) := by decide +kernel
theorem dX9_beginFrom_32 : decode cX9_beginFrom 32 = .ok (.iload_n 2, 1) := by decide +kernel
theorem dX9_beginFrom_33 : decode cX9_beginFrom 33 = .ok (.goto 5, 3) := by decide +kernel
theorem dX9_beginFrom_36 : decode cX9_beginFrom 36 = .ok (.iload 4, 2) := by decide +kernel
theorem dX9_beginFrom_38 : decode cX9_beginFrom 38 = .ok (.istore 4, 2) := by decide +kernel
theorem dX9_beginFrom_40 : decode cX9_beginFrom 40 = .ok (.aload_n 0, 1) := by decide +kernel
theorem dX9_beginFrom_41 : decode cX9_beginFrom 41 = .ok (.iconst 0, 1) := by decide +kernel
theorem dX9_beginFrom_42 : decode cX9_beginFrom 42 = .ok (.sipush 1440, 3) := by decide +kernel
theorem dX9_beginFrom_45 : decode cX9_beginFrom 45 = .ok (.iload_n 3, 1) := by decide +kernel
theorem dX9_beginFrom_46 : decode cX9_beginFrom 46 = .ok (.imul, 1) := by decide +kernel
theorem dX9_beginFrom_47 : decode cX9_beginFrom 47 = .ok (.invokevirtual 256, 3) := by decide +kernel
theorem dX9_beginFrom_50 : decode cX9_beginFrom 50 = .ok (.sipush 1440, 3) := by decide +kernel
theorem dX9_beginFrom_53 : decode cX9_beginFrom 53 = .ok (.iadd, 1) := by decide +kernel
theorem dX9_beginFrom_54 : decode cX9_beginFrom 54 = .ok (.bipush 60, 2) := by decide +kernel
theorem dX9_beginFrom_56 : decode cX9_beginFrom 56 = .ok (.iadd, 1) := by decide +kernel
theorem dX9_beginFrom_57 : decode cX9_beginFrom 57 = .ok (.istore 5, 2) := by decide +kernel
theorem dX9_beginFrom_59 : decode cX9_beginFrom 59 = .ok (.iload 4, 2) := by decide +kernel
theorem dX9_beginFrom_61 : decode cX9_beginFrom 61 = .ok (.iload 5, 2) := by decide +kernel
theorem dX9_beginFrom_63 : decode cX9_beginFrom 63 = .ok (.if_icmp .ge 49, 3) := by decide +kernel
theorem dX9_beginFrom_66 : decode cX9_beginFrom 66 = .ok (.aload_n 0, 1) := by decide +kernel
theorem dX9_beginFrom_67 : decode cX9_beginFrom 67 = .ok (.iconst 0, 1) := by decide +kernel
theorem dX9_beginFrom_68 : decode cX9_beginFrom 68 = .ok (.iload 4, 2) := by decide +kernel
theorem dX9_beginFrom_70 : decode cX9_beginFrom 70 = .ok (.invokevirtual 273, 3) := by decide +kernel
theorem dX9_beginFrom_73 : decode cX9_beginFrom 73 = .ok (.sipush 1440, 3) := by decide +kernel
theorem dX9_beginFrom_76 : decode cX9_beginFrom 76 = .ok (.iload_n 3, 1) := by decide +kernel
theorem dX9_beginFrom_77 : decode cX9_beginFrom 77 = .ok (.imul, 1) := by decide +kernel
theorem dX9_beginFrom_78 : decode cX9_beginFrom 78 = .ok (.isub, 1) := by decide +kernel
theorem dX9_beginFrom_79 : decode cX9_beginFrom 79 = .ok (.istore 6, 2) := by decide +kernel
theorem dX9_beginFrom_81 : decode cX9_beginFrom 81 = .ok (.iload 6, 2) := by decide +kernel
theorem dX9_beginFrom_83 : decode cX9_beginFrom 83 = .ok (.aload_n 0, 1) := by decide +kernel
theorem dX9_beginFrom_84 : decode cX9_beginFrom 84 = .ok (.iload_n 1, 1) := by decide +kernel
theorem dX9_beginFrom_85 : decode cX9_beginFrom 85 = .ok (.iconst 1, 1) := by decide +kernel
theorem dX9_beginFrom_86 : decode cX9_beginFrom 86 = .ok (.invokevirtual 320, 3) := by decide +kernel
theorem dX9_beginFrom_89 : decode cX9_beginFrom 89 = .ok (.if_icmp .lt 17, 3) := by decide +kernel
theorem dX9_beginFrom_92 : decode cX9_beginFrom 92 = .ok (.iload 6, 2) := by decide +kernel
theorem dX9_beginFrom_94 : decode cX9_beginFrom 94 = .ok (.aload_n 0, 1) := by decide +kernel
theorem dX9_beginFrom_95 : decode cX9_beginFrom 95 = .ok (.iload_n 1, 1) := by decide +kernel
theorem dX9_beginFrom_96 : decode cX9_beginFrom 96 = .ok (.iconst 2, 1) := by decide +kernel
theorem dX9_beginFrom_97 : decode cX9_beginFrom 97 = .ok (.invokevirtual 320, 3) := by decide +kernel
theorem dX9_beginFrom_100 : decode cX9_beginFrom 100 = .ok (.if_icmp .ge 6, 3) := by decide +kernel
theorem dX9_beginFrom_103 : decode cX9_beginFrom 103 = .ok (.iload 4, 2) := by decide +kernel
theorem dX9_beginFrom_105 : decode cX9_beginFrom 105 = .ok (.ireturn, 1) := by decide +kernel
theorem dX9_beginFrom_106 : decode cX9_beginFrom 106 = .ok (.iinc 4 1, 3) := by decide +kernel
theorem dX9_beginFrom_109 : decode cX9_beginFrom 109 = .ok (.goto (-50), 3) := by decide +kernel
theorem dX9_beginFrom_112 : decode cX9_beginFrom 112 = .ok (.ldc_w 323, 3) := by decide +kernel
theorem dX9_beginFrom_115 : decode cX9_beginFrom 115 = .ok (.ireturn, 1) := by decide +kernel
theorem dX9_findDone_0 : decode cX9_findDone 0 = .ok (.iconst 0, 1) := by decide +kernel
theorem dX9_findDone_1 : decode cX9_findDone 1 = .ok (.istore_n 2, 1) := by decide +kernel
theorem dX9_findDone_2 : decode cX9_findDone 2 = .ok (.iload_n 2, 1) := by decide +kernel
theorem dX9_findDone_3 : decode cX9_findDone 3 = .ok (.sipush 256, 3) := by decide +kernel
theorem dX9_findDone_6 : decode cX9_findDone 6 = .ok (.if_icmp .ge 26, 3) := by decide +kernel
theorem dX9_findDone_9 : decode cX9_findDone 9 = .ok (.aload_n 0, 1) := by decide +kernel
theorem dX9_findDone_10 : decode cX9_findDone 10 = .ok (.getfield 100, 3) := by decide +kernel
theorem dX9_findDone_13 : decode cX9_findDone 13 = .ok (.iload_n 2, 1) := by decide +kernel
theorem dX9_findDone_14 : decode cX9_findDone 14 = .ok (.iload_n 2, 1) := by decide +kernel
theorem dX9_findDone_15 : decode cX9_findDone 15 = .ok (.ifCond .ne 7, 3) := by decide +kernel
theorem dX9_findDone_18 : decode cX9_findDone 18 = .ok (.iconst 0, 1) := by decide +kernel
theorem dX9_findDone_19 : decode cX9_findDone 19 = .ok (.goto 6, 3) := by decide +kernel
theorem dX9_findDone_22 : decode cX9_findDone 22 = .ok (.ldc_w 323, 3) := by decide +kernel
theorem dX9_findDone_25 : decode cX9_findDone 25 = .ok (.iastore, 1) := by decide +kernel
theorem dX9_findDone_26 : decode cX9_findDone 26 = .ok (.iinc 2 1, 3) := by decide +kernel
theorem dX9_findDone_29 : decode cX9_findDone 29 = .ok (.goto (-27), 3) := by decide +kernel
theorem dX9_findDone_32 : decode cX9_findDone 32 = .ok (.iconst 0, 1) := by decide +kernel
theorem dX9_findDone_33 : decode cX9_findDone 33 = .ok (.istore_n 2, 1) := by decide +kernel
theorem dX9_findDone_34 : decode cX9_findDone 34 = .ok (.iload_n 2, 1) := by decide +kernel
theorem dX9_findDone_35 : decode cX9_findDone 35 = .ok (.iconst 1, 1) := by decide +kernel
theorem dX9_findDone_36 : decode cX9_findDone 36 = .ok (.aload_n 0, 1) := by decide +kernel
theorem dX9_findDone_37 : decode cX9_findDone 37 = .ok (.invokevirtual 317, 3) := by decide +kernel
theorem dX9_findDone_40 : decode cX9_findDone 40 = .ok (.ishl, 1) := by decide +kernel
theorem dX9_findDone_41 : decode cX9_findDone 41 = .ok (.if_icmp .ge 131, 3) := by decide +kernel
theorem dX9_findDone_44 : decode cX9_findDone 44 = .ok (.iconst 0, 1) := by decide +kernel
theorem dX9_findDone_45 : decode cX9_findDone 45 = .ok (.istore_n 3, 1) := by decide +kernel
theorem dX9_findDone_46 : decode cX9_findDone 46 = .ok (.iload_n 3, 1) := by decide +kernel
theorem dX9_findDone_47 : decode cX9_findDone 47 = .ok (.aload_n 0, 1) := by decide +kernel
theorem dX9_findDone_48 : decode cX9_findDone 48 = .ok (.invokevirtual 317, 3) := by decide +kernel
theorem dX9_findDone_51 : decode cX9_findDone 51 = .ok (.if_icmp .ge 115, 3) := by decide +kernel
theorem dX9_findDone_54 : decode cX9_findDone 54 = .ok (.aload_n 0, 1) := by decide +kernel
theorem dX9_findDone_55 : decode cX9_findDone 55 = .ok (.getfield 100, 3) := by decide +kernel
theorem dX9_findDone_58 : decode cX9_findDone 58 = .ok (.iload_n 2, 1) := by decide +kernel
theorem dX9_findDone_59 : decode cX9_findDone 59 = .ok (.iaload, 1) := by decide +kernel
theorem dX9_findDone_60 : decode cX9_findDone 60 = .ok (.ldc_w 323, 3) := by decide +kernel
theorem dX9_findDone_63 : decode cX9_findDone 63 = .ok (.if_icmp .ge 103, 3) := by decide +kernel
theorem dX9_findDone_66 : decode cX9_findDone 66 = .ok (.iload_n 2, 1) := by decide +kernel
theorem dX9_findDone_67 : decode cX9_findDone 67 = .ok (.iload_n 3, 1) := by decide +kernel
theorem dX9_findDone_68 : decode cX9_findDone 68 = .ok (.ishr, 1) := by decide +kernel
theorem dX9_findDone_69 : decode cX9_findDone 69 = .ok (.iconst 1, 1) := by decide +kernel
theorem dX9_findDone_70 : decode cX9_findDone 70 = .ok (.iand, 1) := by decide +kernel
theorem dX9_findDone_71 : decode cX9_findDone 71 = .ok (.ifCond .ne 89, 3) := by decide +kernel
theorem dX9_findDone_74 : decode cX9_findDone 74 = .ok (.aload_n 0, 1) := by decide +kernel
theorem dX9_findDone_75 : decode cX9_findDone 75 = .ok (.iload_n 3, 1) := by decide +kernel
theorem dX9_findDone_76 : decode cX9_findDone 76 = .ok (.iconst 0, 1) := by decide +kernel
theorem dX9_findDone_77 : decode cX9_findDone 77 = .ok (.invokevirtual 320, 3) := by decide +kernel
theorem dX9_findDone_80 : decode cX9_findDone 80 = .ok (.iload_n 1, 1) := by decide +kernel
theorem dX9_findDone_81 : decode cX9_findDone 81 = .ok (.if_icmp .ne 79, 3) := by decide +kernel
theorem dX9_findDone_84 : decode cX9_findDone 84 = .ok (.aload_n 0, 1) := by decide +kernel
theorem dX9_findDone_85 : decode cX9_findDone 85 = .ok (.iload_n 3, 1) := by decide +kernel
theorem dX9_findDone_86 : decode cX9_findDone 86 = .ok (.aload_n 0, 1) := by decide +kernel
theorem dX9_findDone_87 : decode cX9_findDone 87 = .ok (.getfield 100, 3) := by decide +kernel
theorem dX9_findDone_90 : decode cX9_findDone 90 = .ok (.iload_n 2, 1) := by decide +kernel
theorem dX9_findDone_91 : decode cX9_findDone 91 = .ok (.iaload, 1) := by decide +kernel
theorem dX9_findDone_92 : decode cX9_findDone 92 = .ok (.invokevirtual 324, 3) := by decide +kernel
theorem dX9_findDone_95 : decode cX9_findDone 95 = .ok (.istore 4, 2) := by decide +kernel
theorem dX9_findDone_97 : decode cX9_findDone 97 = .ok (.iload_n 2, 1) := by decide +kernel
theorem dX9_findDone_98 : decode cX9_findDone 98 = .ok (.iconst 1, 1) := by decide +kernel
theorem dX9_findDone_99 : decode cX9_findDone 99 = .ok (.iload_n 3, 1) := by decide +kernel
theorem dX9_findDone_100 : decode cX9_findDone 100 = .ok (.ishl, 1) := by decide +kernel
theorem dX9_findDone_101 : decode cX9_findDone 101 = .ok (.ior, 1) := by decide +kernel
theorem dX9_findDone_102 : decode cX9_findDone 102 = .ok (.istore 5, 2) := by decide +kernel
theorem dX9_findDone_104 : decode cX9_findDone 104 = .ok (.iload 4, 2) := by decide +kernel
theorem dX9_findDone_106 : decode cX9_findDone 106 = .ok (.ldc_w 323, 3) := by decide +kernel
theorem dX9_findDone_109 : decode cX9_findDone 109 = .ok (.if_icmp .ge 15, 3) := by decide +kernel
theorem dX9_findDone_112 : decode cX9_findDone 112 = .ok (.iload 4, 2) := by decide +kernel
theorem dX9_findDone_114 : decode cX9_findDone 114 = .ok (.aload_n 0, 1) := by decide +kernel
theorem dX9_findDone_115 : decode cX9_findDone 115 = .ok (.iload_n 3, 1) := by decide +kernel
theorem dX9_findDone_116 : decode cX9_findDone 116 = .ok (.iconst 3, 1) := by decide +kernel
theorem dX9_findDone_117 : decode cX9_findDone 117 = .ok (.invokevirtual 320, 3) := by decide +kernel
theorem dX9_findDone_120 : decode cX9_findDone 120 = .ok (.iadd, 1) := by decide +kernel
theorem dX9_findDone_121 : decode cX9_findDone 121 = .ok (.goto 6, 3) := by decide +kernel
theorem dX9_findDone_124 : decode cX9_findDone 124 = .ok (.ldc_w 323, 3) := by decide +kernel
theorem dX9_findDone_127 : decode cX9_findDone 127 = .ok (.istore 6, 2) := by decide +kernel
theorem dX9_findDone_129 : decode cX9_findDone 129 = .ok (.aload_n 0, 1) := by decide +kernel
theorem dX9_findDone_130 : decode cX9_findDone 130 = .ok (.getfield 100, 3) := by decide +kernel
theorem dX9_findDone_133 : decode cX9_findDone 133 = .ok (.iload 5, 2) := by decide +kernel
theorem dX9_findDone_135 : decode cX9_findDone 135 = .ok (.iload 6, 2) := by decide +kernel
theorem dX9_findDone_137 : decode cX9_findDone 137 = .ok (.aload_n 0, 1) := by decide +kernel
theorem dX9_findDone_138 : decode cX9_findDone 138 = .ok (.getfield 100, 3) := by decide +kernel
theorem dX9_findDone_141 : decode cX9_findDone 141 = .ok (.iload 5, 2) := by decide +kernel
theorem dX9_findDone_143 : decode cX9_findDone 143 = .ok (.iaload, 1) := by decide +kernel
theorem dX9_findDone_144 : decode cX9_findDone 144 = .ok (.if_icmp .ge 8, 3) := by decide +kernel
theorem dX9_findDone_147 : decode cX9_findDone 147 = .ok (.iload 6, 2) := by decide +kernel
theorem dX9_findDone_149 : decode cX9_findDone 149 = .ok (.goto 10, 3) := by decide +kernel
theorem dX9_findDone_152 : decode cX9_findDone 152 = .ok (.aload_n 0, 1) := by decide +kernel
theorem dX9_findDone_153 : decode cX9_findDone 153 = .ok (.getfield 100, 3) := by decide +kernel
theorem dX9_findDone_156 : decode cX9_findDone 156 = .ok (.iload 5, 2) := by decide +kernel
theorem dX9_findDone_158 : decode cX9_findDone 158 = .ok (.iaload, 1) := by decide +kernel
theorem dX9_findDone_159 : decode cX9_findDone 159 = .ok (.iastore, 1) := by decide +kernel
theorem dX9_findDone_160 : decode cX9_findDone 160 = .ok (.iinc 3 1, 3) := by decide +kernel
theorem dX9_findDone_163 : decode cX9_findDone 163 = .ok (.goto (-117), 3) := by decide +kernel
theorem dX9_findDone_166 : decode cX9_findDone 166 = .ok (.iinc 2 1, 3) := by decide +kernel
theorem dX9_findDone_169 : decode cX9_findDone 169 = .ok (.goto (-135), 3) := by decide +kernel
theorem dX9_findDone_172 : decode cX9_findDone 172 = .ok (.return_, 1) := by decide +kernel
theorem dX9_worthOf_0 : decode cX9_worthOf 0 = .ok (.iconst 0, 1) := by decide +kernel
theorem dX9_worthOf_1 : decode cX9_worthOf 1 = .ok (.istore_n 2, 1) := by decide +kernel
theorem dX9_worthOf_2 : decode cX9_worthOf 2 = .ok (.iconst 0, 1) := by decide +kernel
theorem dX9_worthOf_3 : decode cX9_worthOf 3 = .ok (.istore_n 3, 1) := by decide +kernel
theorem dX9_worthOf_4 : decode cX9_worthOf 4 = .ok (.iload_n 3, 1) := by decide +kernel
theorem dX9_worthOf_5 : decode cX9_worthOf 5 = .ok (.aload_n 0, 1) := by decide +kernel
theorem dX9_worthOf_6 : decode cX9_worthOf 6 = .ok (.invokevirtual 317, 3) := by decide +kernel
theorem dX9_worthOf_9 : decode cX9_worthOf 9 = .ok (.if_icmp .ge 31, 3) := by decide +kernel
theorem dX9_worthOf_12 : decode cX9_worthOf 12 = .ok (.iload_n 2, 1) := by decide +kernel
theorem dX9_worthOf_13 : decode cX9_worthOf 13 = .ok (.iload_n 1, 1) := by decide +kernel
theorem dX9_worthOf_14 : decode cX9_worthOf 14 = .ok (.iload_n 3, 1) := by decide +kernel
theorem dX9_worthOf_15 : decode cX9_worthOf 15 = .ok (.ishr, 1) := by decide +kernel
theorem dX9_worthOf_16 : decode cX9_worthOf 16 = .ok (.iconst 1, 1) := by decide +kernel
theorem dX9_worthOf_17 : decode cX9_worthOf 17 = .ok (.iand, 1) := by decide +kernel
theorem dX9_worthOf_18 : decode cX9_worthOf 18 = .ok (.iconst 1, 1) := by decide +kernel
theorem dX9_worthOf_19 : decode cX9_worthOf 19 = .ok (.if_icmp .ne 12, 3) := by decide +kernel
theorem dX9_worthOf_22 : decode cX9_worthOf 22 = .ok (.aload_n 0, 1) := by decide +kernel
theorem dX9_worthOf_23 : decode cX9_worthOf 23 = .ok (.iload_n 3, 1) := by decide +kernel
theorem dX9_worthOf_24 : decode cX9_worthOf 24 = .ok (.iconst 4, 1) := by decide +kernel
theorem dX9_worthOf_25 : decode cX9_worthOf 25 = .ok (.invokevirtual 320, 3) := by decide +kernel
theorem dX9_worthOf_28 : decode cX9_worthOf 28 = .ok (.goto 4, 3) := by decide +kernel
theorem dX9_worthOf_31 : decode cX9_worthOf 31 = .ok (.iconst 0, 1) := by decide +kernel
theorem dX9_worthOf_32 : decode cX9_worthOf 32 = .ok (.iadd, 1) := by decide +kernel
theorem dX9_worthOf_33 : decode cX9_worthOf 33 = .ok (.istore_n 2, 1) := by decide +kernel
theorem dX9_worthOf_34 : decode cX9_worthOf 34 = .ok (.iinc 3 1, 3) := by decide +kernel
theorem dX9_worthOf_37 : decode cX9_worthOf 37 = .ok (.goto (-33), 3) := by decide +kernel
theorem dX9_worthOf_40 : decode cX9_worthOf 40 = .ok (.iload_n 2, 1) := by decide +kernel
theorem dX9_worthOf_41 : decode cX9_worthOf 41 = .ok (.ireturn, 1) := by decide +kernel
theorem dX9_findBest_0 : decode cX9_findBest 0 = .ok (.aload_n 0, 1) := by decide +kernel
theorem dX9_findBest_1 : decode cX9_findBest 1 = .ok (.iload_n 1, 1) := by decide +kernel
theorem dX9_findBest_2 : decode cX9_findBest 2 = .ok (.invokevirtual 327, 3) := by decide +kernel
theorem dX9_findBest_5 : decode cX9_findBest 5 = .ok (.iconst 0, 1) := by decide +kernel
theorem dX9_findBest_6 : decode cX9_findBest 6 = .ok (.istore_n 2, 1) := by decide +kernel
theorem dX9_findBest_7 : decode cX9_findBest 7 = .ok (.iconst 0, 1) := by decide +kernel
theorem dX9_findBest_8 : decode cX9_findBest 8 = .ok (.istore_n 3, 1) := by decide +kernel
theorem dX9_findBest_9 : decode cX9_findBest 9 = .ok (.iload_n 3, 1) := by decide +kernel
theorem dX9_findBest_10 : decode cX9_findBest 10 = .ok (.iconst 1, 1) := by decide +kernel
theorem dX9_findBest_11 : decode cX9_findBest 11 = .ok (.aload_n 0, 1) := by decide +kernel
theorem dX9_findBest_12 : decode cX9_findBest 12 = .ok (.invokevirtual 317, 3) := by decide +kernel
theorem dX9_findBest_15 : decode cX9_findBest 15 = .ok (.ishl, 1) := by decide +kernel
theorem dX9_findBest_16 : decode cX9_findBest 16 = .ok (.if_icmp .ge 40, 3) := by decide +kernel
theorem dX9_findBest_19 : decode cX9_findBest 19 = .ok (.aload_n 0, 1) := by decide +kernel
theorem dX9_findBest_20 : decode cX9_findBest 20 = .ok (.getfield 100, 3) := by decide +kernel
theorem dX9_findBest_23 : decode cX9_findBest 23 = .ok (.iload_n 3, 1) := by decide +kernel
theorem dX9_findBest_24 : decode cX9_findBest 24 = .ok (.iaload, 1) := by decide +kernel
theorem dX9_findBest_25 : decode cX9_findBest 25 = .ok (.ldc_w 323, 3) := by decide +kernel
theorem dX9_findBest_28 : decode cX9_findBest 28 = .ok (.if_icmp .ge 20, 3) := by decide +kernel
theorem dX9_findBest_31 : decode cX9_findBest 31 = .ok (.aload_n 0, 1) := by decide +kernel
theorem dX9_findBest_32 : decode cX9_findBest 32 = .ok (.iload_n 3, 1) := by decide +kernel
theorem dX9_findBest_33 : decode cX9_findBest 33 = .ok (.invokevirtual 330, 3) := by decide +kernel
theorem dX9_findBest_36 : decode cX9_findBest 36 = .ok (.aload_n 0, 1) := by decide +kernel
theorem dX9_findBest_37 : decode cX9_findBest 37 = .ok (.iload_n 2, 1) := by decide +kernel
theorem dX9_findBest_38 : decode cX9_findBest 38 = .ok (.invokevirtual 330, 3) := by decide +kernel
theorem dX9_findBest_41 : decode cX9_findBest 41 = .ok (.if_icmp .le 7, 3) := by decide +kernel
theorem dX9_findBest_44 : decode cX9_findBest 44 = .ok (.iload_n 3, 1) := by decide +kernel
theorem dX9_findBest_45 : decode cX9_findBest 45 = .ok (.goto 4, 3) := by decide +kernel
theorem dX9_findBest_48 : decode cX9_findBest 48 = .ok (.iload_n 2, 1) := by decide +kernel
theorem dX9_findBest_49 : decode cX9_findBest 49 = .ok (.istore_n 2, 1) := by decide +kernel
theorem dX9_findBest_50 : decode cX9_findBest 50 = .ok (.iinc 3 1, 3) := by decide +kernel
theorem dX9_findBest_53 : decode cX9_findBest 53 = .ok (.goto (-44), 3) := by decide +kernel
theorem dX9_findBest_56 : decode cX9_findBest 56 = .ok (.iload_n 2, 1) := by decide +kernel
theorem dX9_findBest_57 : decode cX9_findBest 57 = .ok (.ireturn, 1) := by decide +kernel
theorem dX9_plain_0 : decode cX9_plain 0 = .ok (.aload_n 0, 1) := by decide +kernel
theorem dX9_plain_1 : decode cX9_plain 1 = .ok (.iload_n 1, 1) := by decide +kernel
theorem dX9_plain_2 : decode cX9_plain 2 = .ok (.putfield 85, 3) := by decide +kernel
theorem dX9_plain_5 : decode cX9_plain 5 = .ok (.aload_n 0, 1) := by decide +kernel
theorem dX9_plain_6 : decode cX9_plain 6 = .ok (.aload_n 0, 1) := by decide +kernel
theorem dX9_plain_7 : decode cX9_plain 7 = .ok (.iload_n 1, 1) := by decide +kernel
theorem dX9_plain_8 : decode cX9_plain 8 = .ok (.invokevirtual 333, 3) := by decide +kernel
theorem dX9_plain_11 : decode cX9_plain 11 = .ok (.invokevirtual 330, 3) := by decide +kernel
theorem dX9_plain_14 : decode cX9_plain 14 = .ok (.istore_n 2, 1) := by decide +kernel
theorem dX9_plain_15 : decode cX9_plain 15 = .ok (.aload_n 0, 1) := by decide +kernel
theorem dX9_plain_16 : decode cX9_plain 16 = .ok (.iconst (-1), 1) := by decide +kernel
theorem dX9_plain_17 : decode cX9_plain 17 = .ok (.putfield 85, 3) := by decide +kernel
theorem dX9_plain_20 : decode cX9_plain 20 = .ok (.iload_n 2, 1) := by decide +kernel
theorem dX9_plain_21 : decode cX9_plain 21 = .ok (.ireturn, 1) := by decide +kernel
theorem dX9_hasDay_0 : decode cX9_hasDay 0 = .ok (.aload_n 0, 1) := by decide +kernel
theorem dX9_hasDay_1 : decode cX9_hasDay 1 = .ok (.invokevirtual 236, 3) := by decide +kernel
theorem dX9_hasDay_4 : decode cX9_hasDay 4 = .ok (.ifCond .le 18, 3) := by decide +kernel
theorem dX9_hasDay_7 : decode cX9_hasDay 7 = .ok (.iload_n 1, 1) := by decide +kernel
theorem dX9_hasDay_8 : decode cX9_hasDay 8 = .ok (.iconst 0, 1) := by decide +kernel
theorem dX9_hasDay_9 : decode cX9_hasDay 9 = .ok (.sipush 3649, 3) := by decide +kernel
theorem dX9_hasDay_12 : decode cX9_hasDay 12 = .ok (.invokestatic 262, 3) := by decide +kernel
theorem dX9_hasDay_15 : decode cX9_hasDay 15 = .ok (.ifCond .eq 7, 3) := by decide +kernel
theorem dX9_hasDay_18 : decode cX9_hasDay 18 = .ok (.iconst 1, 1) := by decide +kernel
theorem dX9_hasDay_19 : decode cX9_hasDay 19 = .ok (.goto 4, 3) := by decide +kernel
theorem dX9_hasDay_22 : decode cX9_hasDay 22 = .ok (.iconst 0, 1) := by decide +kernel
theorem dX9_hasDay_23 : decode cX9_hasDay 23 = .ok (.ireturn, 1) := by decide +kernel
theorem dX9_best_0 : decode cX9_best 0 = .ok (.aload_n 0, 1) := by decide +kernel
theorem dX9_best_1 : decode cX9_best 1 = .ok (.iconst 0, 1) := by decide +kernel
theorem dX9_best_2 : decode cX9_best 2 = .ok (.putfield 1, 3) := by decide +kernel
theorem dX9_best_5 : decode cX9_best 5 = .ok (.aload_n 0, 1) := by decide +kernel
theorem dX9_best_6 : decode cX9_best 6 = .ok (.iload_n 1, 1) := by decide +kernel
theorem dX9_best_7 : decode cX9_best 7 = .ok (.invokevirtual 336, 3) := by decide +kernel
theorem dX9_best_10 : decode cX9_best 10 = .ok (.ifCond .eq 12, 3) := by decide +kernel
theorem dX9_best_13 : decode cX9_best 13 = .ok (.iload_n 2, 1) := by decide +kernel
theorem dX9_best_14 : decode cX9_best 14 = .ok (.iconst 0, 1) := by decide +kernel
theorem dX9_best_15 : decode cX9_best 15 = .ok (.iconst 3, 1) := by decide +kernel
theorem dX9_best_16 : decode cX9_best 16 = .ok (.invokestatic 262, 3) := by decide +kernel
theorem dX9_best_19 : decode cX9_best 19 = .ok (.ifCond .ne 5, 3) := by decide +kernel
theorem dX9_best_22 : decode cX9_best 22 = .ok (.iconst (-1), 1) := by decide +kernel
theorem dX9_best_23 : decode cX9_best 23 = .ok (.ireturn, 1) := by decide +kernel
theorem dX9_best_24 : decode cX9_best 24 = .ok (.aload_n 0, 1) := by decide +kernel
theorem dX9_best_25 : decode cX9_best 25 = .ok (.iload_n 1, 1) := by decide +kernel
theorem dX9_best_26 : decode cX9_best 26 = .ok (.invokevirtual 339, 3) := by decide +kernel
theorem dX9_best_29 : decode cX9_best 29 = .ok (.istore_n 3, 1) := by decide +kernel
theorem dX9_best_30 : decode cX9_best 30 = .ok (.aload_n 0, 1) := by decide +kernel
theorem dX9_best_31 : decode cX9_best 31 = .ok (.iload_n 1, 1) := by decide +kernel
theorem dX9_best_32 : decode cX9_best 32 = .ok (.invokevirtual 333, 3) := by decide +kernel
theorem dX9_best_35 : decode cX9_best 35 = .ok (.istore 4, 2) := by decide +kernel
theorem dX9_best_37 : decode cX9_best 37 = .ok (.iload_n 2, 1) := by decide +kernel
theorem dX9_best_38 : decode cX9_best 38 = .ok (.ifCond .ne 12, 3) := by decide +kernel
theorem dX9_best_41 : decode cX9_best 41 = .ok (.aload_n 0, 1) := by decide +kernel
theorem dX9_best_42 : decode cX9_best 42 = .ok (.iload 4, 2) := by decide +kernel
theorem dX9_best_44 : decode cX9_best 44 = .ok (.invokevirtual 330, 3) := by decide +kernel
theorem dX9_best_47 : decode cX9_best 47 = .ok (.goto 30, 3) := by decide +kernel
theorem dX9_best_50 : decode cX9_best 50 = .ok (.iload_n 2, 1) := by decide +kernel
theorem dX9_best_51 : decode cX9_best 51 = .ok (.iconst 1, 1) := by decide +kernel
theorem dX9_best_52 : decode cX9_best 52 = .ok (.if_icmp .ne 8, 3) := by decide +kernel
theorem dX9_best_55 : decode cX9_best 55 = .ok (.iload 4, 2) := by decide +kernel
theorem dX9_best_57 : decode cX9_best 57 = .ok (.goto 20, 3) := by decide +kernel
theorem dX9_best_60 : decode cX9_best 60 = .ok (.iload_n 2, 1) := by decide +kernel
theorem dX9_best_61 : decode cX9_best 61 = .ok (.iconst 2, 1) := by decide +kernel
theorem dX9_best_62 : decode cX9_best 62 = .ok (.if_icmp .ne 14, 3) := by decide +kernel
theorem dX9_best_65 : decode cX9_best 65 = .ok (.aload_n 0, 1) := by decide +kernel
theorem dX9_best_66 : decode cX9_best 66 = .ok (.iload 4, 2) := by decide +kernel
theorem dX9_best_68 : decode cX9_best 68 = .ok (.invokevirtual 330, 3) := by decide +kernel
theorem dX9_best_71 : decode cX9_best 71 = .ok (.iload_n 3, 1) := by decide +kernel
theorem dX9_best_72 : decode cX9_best 72 = .ok (.isub, 1) := by decide +kernel
theorem dX9_best_73 : decode cX9_best 73 = .ok (.goto 4, 3) := by decide +kernel
theorem dX9_best_76 : decode cX9_best 76 = .ok (.iload_n 3, 1) := by decide +kernel
theorem dX9_best_77 : decode cX9_best 77 = .ok (.ireturn, 1) := by decide +kernel
theorem dX9_rows_0 : decode cX9_rows 0 = .ok (.iload_n 1, 1) := by decide +kernel
theorem dX9_rows_1 : decode cX9_rows 1 = .ok (.ifCond .ne 5, 3) := by decide +kernel
theorem dX9_rows_4 : decode cX9_rows 4 = .ok (.iconst 1, 1) := by decide +kernel
theorem dX9_rows_5 : decode cX9_rows 5 = .ok (.ireturn, 1) := by decide +kernel
theorem dX9_rows_6 : decode cX9_rows 6 = .ok (.iconst 0, 1) := by decide +kernel
theorem dX9_rows_7 : decode cX9_rows 7 = .ok (.istore 4, 2) := by decide +kernel
theorem dX9_rows_9 : decode cX9_rows 9 = .ok (.iload 4, 2) := by decide +kernel
theorem dX9_rows_11 : decode cX9_rows 11 = .ok (.aload_n 0, 1) := by decide +kernel
theorem dX9_rows_12 : decode cX9_rows 12 = .ok (.invokevirtual 317, 3) := by decide +kernel
theorem dX9_rows_15 : decode cX9_rows 15 = .ok (.if_icmp .ge 82, 3) := by decide +kernel
theorem dX9_rows_18 : decode cX9_rows 18 = .ok (.iload_n 1, 1) := by decide +kernel
theorem dX9_rows_19 : decode cX9_rows 19 = .ok (.iload 4, 2) := by decide +kernel
theorem dX9_rows_21 : decode cX9_rows 21 = .ok (.ishr, 1) := by decide +kernel
theorem dX9_rows_22 : decode cX9_rows 22 = .ok (.iconst 1, 1) := by decide +kernel
theorem dX9_rows_23 : decode cX9_rows 23 = .ok (.iand, 1) := by decide +kernel
theorem dX9_rows_24 : decode cX9_rows 24 = .ok (.iconst 1, 1) := by decide +kernel
theorem dX9_rows_25 : decode cX9_rows 25 = .ok (.if_icmp .ne 66, 3) := by decide +kernel
theorem dX9_rows_28 : decode cX9_rows 28 = .ok (.aload_n 0, 1) := by decide +kernel
theorem dX9_rows_29 : decode cX9_rows 29 = .ok (.iload 4, 2) := by decide +kernel
theorem dX9_rows_31 : decode cX9_rows 31 = .ok (.iload_n 3, 1) := by decide +kernel
theorem dX9_rows_32 : decode cX9_rows 32 = .ok (.invokevirtual 324, 3) := by decide +kernel
theorem dX9_rows_35 : decode cX9_rows 35 = .ok (.istore 5, 2) := by decide +kernel
theorem dX9_rows_37 : decode cX9_rows 37 = .ok (.aload_n 0, 1) := by decide +kernel
theorem dX9_rows_38 : decode cX9_rows 38 = .ok (.getfield 103, 3) := by decide +kernel
theorem dX9_rows_41 : decode cX9_rows 41 = .ok (.iload_n 2, 1) := by decide +kernel
theorem dX9_rows_42 : decode cX9_rows 42 = .ok (.iload 4, 2) := by decide +kernel
theorem dX9_rows_44 : decode cX9_rows 44 = .ok (.iastore, 1) := by decide +kernel
theorem dX9_rows_45 : decode cX9_rows 45 = .ok (.aload_n 0, 1) := by decide +kernel
theorem dX9_rows_46 : decode cX9_rows 46 = .ok (.getfield 106, 3) := by decide +kernel
theorem dX9_rows_49 : decode cX9_rows 49 = .ok (.iload_n 2, 1) := by decide +kernel
theorem dX9_rows_50 : decode cX9_rows 50 = .ok (.iload 5, 2) := by decide +kernel
theorem dX9_rows_52 : decode cX9_rows 52 = .ok (.iastore, 1) := by decide +kernel
theorem dX9_rows_53 : decode cX9_rows 53 = .ok (.iload 5, 2) := by decide +kernel
theorem dX9_rows_55 : decode cX9_rows 55 = .ok (.ldc_w 323, 3) := by decide +kernel
theorem dX9_rows_58 : decode cX9_rows 58 = .ok (.if_icmp .ge 33, 3) := by decide +kernel
theorem dX9_rows_61 : decode cX9_rows 61 = .ok (.aload_n 0, 1) := by decide +kernel
theorem dX9_rows_62 : decode cX9_rows 62 = .ok (.iload_n 1, 1) := by decide +kernel
theorem dX9_rows_63 : decode cX9_rows 63 = .ok (.iconst 1, 1) := by decide +kernel
theorem dX9_rows_64 : decode cX9_rows 64 = .ok (.iload 4, 2) := by decide +kernel
theorem dX9_rows_66 : decode cX9_rows 66 = .ok (.ishl, 1) := by decide +kernel
theorem dX9_rows_67 : decode cX9_rows 67 = .ok (.iconst (-1), 1) := by decide +kernel
theorem dX9_rows_68 : decode cX9_rows 68 = .ok (.ixor, 1) := by decide +kernel
theorem dX9_rows_69 : decode cX9_rows 69 = .ok (.iand, 1) := by decide +kernel
theorem dX9_rows_70 : decode cX9_rows 70 = .ok (.iload_n 2, 1) := by decide +kernel
theorem dX9_rows_71 : decode cX9_rows 71 = .ok (.iconst 1, 1) := by decide +kernel
theorem dX9_rows_72 : decode cX9_rows 72 = .ok (.iadd, 1) := by decide +kernel
theorem dX9_rows_73 : decode cX9_rows 73 = .ok (.iload 5, 2) := by decide +kernel
theorem dX9_rows_75 : decode cX9_rows 75 = .ok (.aload_n 0, 1) := by decide +kernel
theorem dX9_rows_76 : decode cX9_rows 76 = .ok (.iload 4, 2) := by decide +kernel
theorem dX9_rows_78 : decode cX9_rows 78 = .ok (.iconst 3, 1) := by decide +kernel
theorem dX9_rows_79 : decode cX9_rows 79 = .ok (.invokevirtual 320, 3) := by decide +kernel
theorem dX9_rows_82 : decode cX9_rows 82 = .ok (.iadd, 1) := by decide +kernel
theorem dX9_rows_83 : decode cX9_rows 83 = .ok (.invokevirtual 342, 3) := by decide +kernel
theorem dX9_rows_86 : decode cX9_rows 86 = .ok (.ifCond .eq 5, 3) := by decide +kernel
theorem dX9_rows_89 : decode cX9_rows 89 = .ok (.iconst 1, 1) := by decide +kernel
theorem dX9_rows_90 : decode cX9_rows 90 = .ok (.ireturn, 1) := by decide +kernel
theorem dX9_rows_91 : decode cX9_rows 91 = .ok (.iinc 4 1, 3) := by decide +kernel
theorem dX9_rows_94 : decode cX9_rows 94 = .ok (.goto (-85), 3) := by decide +kernel
theorem dX9_rows_97 : decode cX9_rows 97 = .ok (.iconst 0, 1) := by decide +kernel
theorem dX9_rows_98 : decode cX9_rows 98 = .ok (.ireturn, 1) := by decide +kernel
theorem dX9_findRow_0 : decode cX9_findRow 0 = .ok (.aload_n 0, 1) := by decide +kernel
theorem dX9_findRow_1 : decode cX9_findRow 1 = .ok (.iload_n 1, 1) := by decide +kernel
theorem dX9_findRow_2 : decode cX9_findRow 2 = .ok (.invokevirtual 336, 3) := by decide +kernel
theorem dX9_findRow_5 : decode cX9_findRow 5 = .ok (.ifCond .ne 5, 3) := by decide +kernel
theorem dX9_findRow_8 : decode cX9_findRow 8 = .ok (.iconst 0, 1) := by decide +kernel
theorem dX9_findRow_9 : decode cX9_findRow 9 = .ok (.ireturn, 1) := by decide +kernel
theorem dX9_findRow_10 : decode cX9_findRow 10 = .ok (.aload_n 0, 1) := by decide +kernel
theorem dX9_findRow_11 : decode cX9_findRow 11 = .ok (.iload_n 1, 1) := by decide +kernel
theorem dX9_findRow_12 : decode cX9_findRow 12 = .ok (.invokevirtual 333, 3) := by decide +kernel
theorem dX9_findRow_15 : decode cX9_findRow 15 = .ok (.istore_n 3, 1) := by decide +kernel
theorem dX9_findRow_16 : decode cX9_findRow 16 = .ok (.aload_n 0, 1) := by decide +kernel
theorem dX9_findRow_17 : decode cX9_findRow 17 = .ok (.iload_n 3, 1) := by decide +kernel
theorem dX9_findRow_18 : decode cX9_findRow 18 = .ok (.iconst 0, 1) := by decide +kernel
theorem dX9_findRow_19 : decode cX9_findRow 19 = .ok (.iconst 0, 1) := by decide +kernel
theorem dX9_findRow_20 : decode cX9_findRow 20 = .ok (.invokevirtual 342, 3) := by decide +kernel
theorem dX9_findRow_23 : decode cX9_findRow 23 = .ok (.pop, 1) := by decide +kernel
theorem dX9_findRow_24 : decode cX9_findRow 24 = .ok (.iload_n 2, 1) := by decide +kernel
theorem dX9_findRow_25 : decode cX9_findRow 25 = .ok (.ifCond .lt 15, 3) := by decide +kernel
theorem dX9_findRow_28 : decode cX9_findRow 28 = .ok (.iload_n 2, 1) := by decide +kernel
theorem dX9_findRow_29 : decode cX9_findRow 29 = .ok (.iload_n 3, 1) := by decide +kernel
theorem dX9_findRow_30 : decode cX9_findRow 30 = .ok (.invokestatic 314, 3) := by decide +kernel
theorem dX9_findRow_33 : decode cX9_findRow 33 = .ok (.if_icmp .ge 7, 3) := by decide +kernel
theorem dX9_findRow_36 : decode cX9_findRow 36 = .ok (.iconst 1, 1) := by decide +kernel
theorem dX9_findRow_37 : decode cX9_findRow 37 = .ok (.goto 4, 3) := by decide +kernel
theorem dX9_findRow_40 : decode cX9_findRow 40 = .ok (.iconst 0, 1) := by decide +kernel
theorem dX9_findRow_41 : decode cX9_findRow 41 = .ok (.ireturn, 1) := by decide +kernel
theorem dX9_order_0 : decode cX9_order 0 = .ok (.aload_n 0, 1) := by decide +kernel
theorem dX9_order_1 : decode cX9_order 1 = .ok (.iconst 0, 1) := by decide +kernel
theorem dX9_order_2 : decode cX9_order 2 = .ok (.putfield 1, 3) := by decide +kernel
theorem dX9_order_5 : decode cX9_order 5 = .ok (.aload_n 0, 1) := by decide +kernel
theorem dX9_order_6 : decode cX9_order 6 = .ok (.iload_n 1, 1) := by decide +kernel
theorem dX9_order_7 : decode cX9_order 7 = .ok (.iload_n 2, 1) := by decide +kernel
theorem dX9_order_8 : decode cX9_order 8 = .ok (.invokevirtual 345, 3) := by decide +kernel
theorem dX9_order_11 : decode cX9_order 11 = .ok (.ifCond .eq 12, 3) := by decide +kernel
theorem dX9_order_14 : decode cX9_order 14 = .ok (.aload_n 0, 1) := by decide +kernel
theorem dX9_order_15 : decode cX9_order 15 = .ok (.getfield 103, 3) := by decide +kernel
theorem dX9_order_18 : decode cX9_order 18 = .ok (.iload_n 2, 1) := by decide +kernel
theorem dX9_order_19 : decode cX9_order 19 = .ok (.iaload, 1) := by decide +kernel
theorem dX9_order_20 : decode cX9_order 20 = .ok (.goto 4, 3) := by decide +kernel
theorem dX9_order_23 : decode cX9_order 23 = .ok (.iconst (-1), 1) := by decide +kernel
theorem dX9_order_24 : decode cX9_order 24 = .ok (.ireturn, 1) := by decide +kernel
theorem dX9_begins_0 : decode cX9_begins 0 = .ok (.aload_n 0, 1) := by decide +kernel
theorem dX9_begins_1 : decode cX9_begins 1 = .ok (.iconst 0, 1) := by decide +kernel
theorem dX9_begins_2 : decode cX9_begins 2 = .ok (.putfield 1, 3) := by decide +kernel
theorem dX9_begins_5 : decode cX9_begins 5 = .ok (.aload_n 0, 1) := by decide +kernel
theorem dX9_begins_6 : decode cX9_begins 6 = .ok (.iload_n 1, 1) := by decide +kernel
theorem dX9_begins_7 : decode cX9_begins 7 = .ok (.iload_n 2, 1) := by decide +kernel
theorem dX9_begins_8 : decode cX9_begins 8 = .ok (.invokevirtual 345, 3) := by decide +kernel
theorem dX9_begins_11 : decode cX9_begins 11 = .ok (.ifCond .eq 12, 3) := by decide +kernel
theorem dX9_begins_14 : decode cX9_begins 14 = .ok (.aload_n 0, 1) := by decide +kernel
theorem dX9_begins_15 : decode cX9_begins 15 = .ok (.getfield 106, 3) := by decide +kernel
theorem dX9_begins_18 : decode cX9_begins 18 = .ok (.iload_n 2, 1) := by decide +kernel
theorem dX9_begins_19 : decode cX9_begins 19 = .ok (.iaload, 1) := by decide +kernel
theorem dX9_begins_20 : decode cX9_begins 20 = .ok (.goto 4, 3) := by decide +kernel
theorem dX9_begins_23 : decode cX9_begins 23 = .ok (.iconst (-1), 1) := by decide +kernel
theorem dX9_begins_24 : decode cX9_begins 24 = .ok (.ireturn, 1) := by decide +kernel
theorem dX9_persons_0 : decode cX9_persons 0 = .ok (.aload_n 0, 1) := by decide +kernel
theorem dX9_persons_1 : decode cX9_persons 1 = .ok (.getfield 73, 3) := by decide +kernel
theorem dX9_persons_4 : decode cX9_persons 4 = .ok (.bipush 126, 2) := by decide +kernel
theorem dX9_persons_6 : decode cX9_persons 6 = .ok (.iaload, 1) := by decide +kernel
theorem dX9_persons_7 : decode cX9_persons 7 = .ok (.ireturn, 1) := by decide +kernel
theorem dX9_wishOf_0 : decode cX9_wishOf 0 = .ok (.aload_n 0, 1) := by decide +kernel
theorem dX9_wishOf_1 : decode cX9_wishOf 1 = .ok (.getfield 73, 3) := by decide +kernel
theorem dX9_wishOf_4 : decode cX9_wishOf 4 = .ok (.bipush 127, 2) := by decide +kernel
theorem dX9_wishOf_6 : decode cX9_wishOf 6 = .ok (.bipush 25, 2) := by decide +kernel
theorem dX9_wishOf_8 : decode cX9_wishOf 8 = .ok (.iload_n 1, 1) := by decide +kernel
theorem dX9_wishOf_9 : decode cX9_wishOf 9 = .ok (.imul, 1) := by decide +kernel
theorem dX9_wishOf_10 : decode cX9_wishOf 10 = .ok (.iadd, 1) := by decide +kernel
theorem dX9_wishOf_11 : decode cX9_wishOf 11 = .ok (.iload_n 2, 1) := by decide +kernel
theorem dX9_wishOf_12 : decode cX9_wishOf 12 = .ok (.iadd, 1) := by decide +kernel
theorem dX9_wishOf_13 : decode cX9_wishOf 13 = .ok (.iaload, 1) := by decide +kernel
theorem dX9_wishOf_14 : decode cX9_wishOf 14 = .ok (.ireturn, 1) := by decide +kernel
theorem dX9_isStroke_0 : decode cX9_isStroke 0 = .ok (.iload_n 0, 1) := by decide +kernel
theorem dX9_isStroke_1 : decode cX9_isStroke 1 = .ok (.iconst 1, 1) := by decide +kernel
theorem dX9_isStroke_2 : decode cX9_isStroke 2 = .ok (.bipush 24, 2) := by decide +kernel
theorem dX9_isStroke_4 : decode cX9_isStroke 4 = .ok (.invokestatic 262, 3) := by decide +kernel
theorem dX9_isStroke_7 : decode cX9_isStroke 7 = .ok (.ireturn, 1) := by decide +kernel
theorem dX9_wish_0 : decode cX9_wish 0 = .ok (.aload_n 0, 1) := by decide +kernel
theorem dX9_wish_1 : decode cX9_wish 1 = .ok (.iconst 0, 1) := by decide +kernel
theorem dX9_wish_2 : decode cX9_wish 2 = .ok (.putfield 1, 3) := by decide +kernel
theorem dX9_wish_5 : decode cX9_wish 5 = .ok (.iload_n 1, 1) := by decide +kernel
theorem dX9_wish_6 : decode cX9_wish 6 = .ok (.ifCond .lt 27, 3) := by decide +kernel
theorem dX9_wish_9 : decode cX9_wish 9 = .ok (.iload_n 1, 1) := by decide +kernel
theorem dX9_wish_10 : decode cX9_wish 10 = .ok (.aload_n 0, 1) := by decide +kernel
theorem dX9_wish_11 : decode cX9_wish 11 = .ok (.invokevirtual 348, 3) := by decide +kernel
theorem dX9_wish_14 : decode cX9_wish 14 = .ok (.if_icmp .ge 19, 3) := by decide +kernel
theorem dX9_wish_17 : decode cX9_wish 17 = .ok (.iload_n 2, 1) := by decide +kernel
theorem dX9_wish_18 : decode cX9_wish 18 = .ok (.invokestatic 351, 3) := by decide +kernel
theorem dX9_wish_21 : decode cX9_wish 21 = .ok (.ifCond .eq 12, 3) := by decide +kernel
theorem dX9_wish_24 : decode cX9_wish 24 = .ok (.aload_n 0, 1) := by decide +kernel
theorem dX9_wish_25 : decode cX9_wish 25 = .ok (.iload_n 1, 1) := by decide +kernel
theorem dX9_wish_26 : decode cX9_wish 26 = .ok (.iload_n 2, 1) := by decide +kernel
theorem dX9_wish_27 : decode cX9_wish 27 = .ok (.invokevirtual 354, 3) := by decide +kernel
theorem dX9_wish_30 : decode cX9_wish 30 = .ok (.goto 4, 3) := by decide +kernel
theorem dX9_wish_33 : decode cX9_wish 33 = .ok (.iconst (-1), 1) := by decide +kernel
theorem dX9_wish_34 : decode cX9_wish 34 = .ok (.ireturn, 1) := by decide +kernel
theorem dX9_prefer_0 : decode cX9_prefer 0 = .ok (.iconst 0, 1) := by decide +kernel
theorem dX9_prefer_1 : decode cX9_prefer 1 = .ok (.istore_n 3, 1) := by decide +kernel
theorem dX9_prefer_2 : decode cX9_prefer 2 = .ok (.iconst 0, 1) := by decide +kernel
theorem dX9_prefer_3 : decode cX9_prefer 3 = .ok (.istore 4, 2) := by decide +kernel
theorem dX9_prefer_5 : decode cX9_prefer 5 = .ok (.iload 4, 2) := by decide +kernel
theorem dX9_prefer_7 : decode cX9_prefer 7 = .ok (.aload_n 0, 1) := by decide +kernel
theorem dX9_prefer_8 : decode cX9_prefer 8 = .ok (.invokevirtual 348, 3) := by decide +kernel
theorem dX9_prefer_11 : decode cX9_prefer 11 = .ok (.if_icmp .ge 34, 3) := by decide +kernel
theorem dX9_prefer_14 : decode cX9_prefer 14 = .ok (.iload_n 3, 1) := by decide +kernel
theorem dX9_prefer_15 : decode cX9_prefer 15 = .ok (.aload_n 0, 1) := by decide +kernel
theorem dX9_prefer_16 : decode cX9_prefer 16 = .ok (.iload 4, 2) := by decide +kernel
theorem dX9_prefer_18 : decode cX9_prefer 18 = .ok (.iload_n 1, 1) := by decide +kernel
theorem dX9_prefer_19 : decode cX9_prefer 19 = .ok (.invokevirtual 354, 3) := by decide +kernel
theorem dX9_prefer_22 : decode cX9_prefer 22 = .ok (.aload_n 0, 1) := by decide +kernel
theorem dX9_prefer_23 : decode cX9_prefer 23 = .ok (.iload 4, 2) := by decide +kernel
theorem dX9_prefer_25 : decode cX9_prefer 25 = .ok (.iload_n 2, 1) := by decide +kernel
theorem dX9_prefer_26 : decode cX9_prefer 26 = .ok (.invokevirtual 354, 3) := by decide +kernel
theorem dX9_prefer_29 : decode cX9_prefer 29 = .ok (.if_icmp .le 7, 3) := by decide +kernel
theorem dX9_prefer_32 : decode cX9_prefer 32 = .ok (.iconst 1, 1) := by decide +kernel
theorem dX9_prefer_33 : decode cX9_prefer 33 = .ok (.goto 4, 3) := by decide +kernel
theorem dX9_prefer_36 : decode cX9_prefer 36 = .ok (.iconst 0, 1) := by decide +kernel
theorem dX9_prefer_37 : decode cX9_prefer 37 = .ok (.iadd, 1) := by decide +kernel
theorem dX9_prefer_38 : decode cX9_prefer 38 = .ok (.istore_n 3, 1) := by decide +kernel
theorem dX9_prefer_39 : decode cX9_prefer 39 = .ok (.iinc 4 1, 3) := by decide +kernel
theorem dX9_prefer_42 : decode cX9_prefer 42 = .ok (.goto (-37), 3) := by decide +kernel
theorem dX9_prefer_45 : decode cX9_prefer 45 = .ok (.iload_n 3, 1) := by decide +kernel
theorem dX9_prefer_46 : decode cX9_prefer 46 = .ok (.ireturn, 1) := by decide +kernel
theorem dX9_prefers_0 : decode cX9_prefers 0 = .ok (.aload_n 0, 1) := by decide +kernel
theorem dX9_prefers_1 : decode cX9_prefers 1 = .ok (.iconst 0, 1) := by decide +kernel
theorem dX9_prefers_2 : decode cX9_prefers 2 = .ok (.putfield 1, 3) := by decide +kernel
theorem dX9_prefers_5 : decode cX9_prefers 5 = .ok (.iload_n 1, 1) := by decide +kernel
theorem dX9_prefers_6 : decode cX9_prefers 6 = .ok (.invokestatic 351, 3) := by decide +kernel
theorem dX9_prefers_9 : decode cX9_prefers 9 = .ok (.ifCond .eq 19, 3) := by decide +kernel
theorem dX9_prefers_12 : decode cX9_prefers 12 = .ok (.iload_n 2, 1) := by decide +kernel
theorem dX9_prefers_13 : decode cX9_prefers 13 = .ok (.invokestatic 351, 3) := by decide +kernel
theorem dX9_prefers_16 : decode cX9_prefers 16 = .ok (.ifCond .eq 12, 3) := by decide +kernel
theorem dX9_prefers_19 : decode cX9_prefers 19 = .ok (.aload_n 0, 1) := by decide +kernel
theorem dX9_prefers_20 : decode cX9_prefers 20 = .ok (.iload_n 1, 1) := by decide +kernel
theorem dX9_prefers_21 : decode cX9_prefers 21 = .ok (.iload_n 2, 1) := by decide +kernel
theorem dX9_prefers_22 : decode cX9_prefers 22 = .ok (.invokevirtual 357, 3) := by decide +kernel
theorem dX9_prefers_25 : decode cX9_prefers 25 = .ok (.goto 4, 3) := by decide +kernel
theorem dX9_prefers_28 : decode cX9_prefers 28 = .ok (.iconst (-1), 1) := by decide +kernel
theorem dX9_prefers_29 : decode cX9_prefers 29 = .ok (.ireturn, 1) := by decide +kernel
theorem dX9_poll_0 : decode cX9_poll 0 = .ok (.iconst 0, 1) := by decide +kernel
theorem dX9_poll_1 : decode cX9_poll 1 = .ok (.istore_n 1, 1) := by decide +kernel
theorem dX9_poll_2 : decode cX9_poll 2 = .ok (.iload_n 1, 1) := by decide +kernel
theorem dX9_poll_3 : decode cX9_poll 3 = .ok (.bipush 25, 2) := by decide +kernel
theorem dX9_poll_5 : decode cX9_poll 5 = .ok (.if_icmp .ge 16, 3) := by decide +kernel
theorem dX9_poll_8 : decode cX9_poll 8 = .ok (.aload_n 0, 1) := by decide +kernel
theorem dX9_poll_9 : decode cX9_poll 9 = .ok (.getfield 113, 3) := by decide +kernel
theorem dX9_poll_12 : decode cX9_poll 12 = .ok (.iload_n 1, 1) := by decide +kernel
theorem dX9_poll_13 : decode cX9_poll 13 = .ok (.iconst 0, 1) := by decide +kernel
theorem dX9_poll_14 : decode cX9_poll 14 = .ok (.iastore, 1) := by decide +kernel
theorem dX9_poll_15 : decode cX9_poll 15 = .ok (.iinc 1 1, 3) := by decide +kernel
theorem dX9_poll_18 : decode cX9_poll 18 = .ok (.goto (-16), 3) := by decide +kernel
theorem dX9_poll_21 : decode cX9_poll 21 = .ok (.iconst 0, 1) := by decide +kernel
theorem dX9_poll_22 : decode cX9_poll 22 = .ok (.istore_n 1, 1) := by decide +kernel
theorem dX9_poll_23 : decode cX9_poll 23 = .ok (.iload_n 1, 1) := by decide +kernel
theorem dX9_poll_24 : decode cX9_poll 24 = .ok (.aload_n 0, 1) := by decide +kernel
theorem dX9_poll_25 : decode cX9_poll 25 = .ok (.invokevirtual 348, 3) := by decide +kernel
theorem dX9_poll_28 : decode cX9_poll 28 = .ok (.if_icmp .ge 69, 3) := by decide +kernel
theorem dX9_poll_31 : decode cX9_poll 31 = .ok (.iconst 0, 1) := by decide +kernel
theorem dX9_poll_32 : decode cX9_poll 32 = .ok (.istore_n 2, 1) := by decide +kernel
theorem dX9_poll_33 : decode cX9_poll 33 = .ok (.iconst 1, 1) := by decide +kernel
theorem dX9_poll_34 : decode cX9_poll 34 = .ok (.istore_n 3, 1) := by decide +kernel
theorem dX9_poll_35 : decode cX9_poll 35 = .ok (.iload_n 3, 1) := by decide +kernel
theorem dX9_poll_36 : decode cX9_poll 36 = .ok (.bipush 24, 2) := by decide +kernel
theorem dX9_poll_38 : decode cX9_poll 38 = .ok (.if_icmp .gt 43, 3) := by decide +kernel
theorem dX9_poll_41 : decode cX9_poll 41 = .ok (.aload_n 0, 1) := by decide +kernel
theorem dX9_poll_42 : decode cX9_poll 42 = .ok (.getfield 109, 3) := by decide +kernel
theorem dX9_poll_45 : decode cX9_poll 45 = .ok (.iload_n 3, 1) := by decide +kernel
theorem dX9_poll_46 : decode cX9_poll 46 = .ok (.baload, 1) := by decide +kernel
theorem dX9_poll_47 : decode cX9_poll 47 = .ok (.ifCond .eq 26, 3) := by decide +kernel
theorem dX9_poll_50 : decode cX9_poll 50 = .ok (.iload_n 2, 1) := by decide +kernel
theorem dX9_poll_51 : decode cX9_poll 51 = .ok (.ifCond .eq 18, 3) := by decide +kernel
theorem dX9_poll_54 : decode cX9_poll 54 = .ok (.aload_n 0, 1) := by decide +kernel
theorem dX9_poll_55 : decode cX9_poll 55 = .ok (.iload_n 1, 1) := by decide +kernel
theorem dX9_poll_56 : decode cX9_poll 56 = .ok (.iload_n 3, 1) := by decide +kernel
theorem dX9_poll_57 : decode cX9_poll 57 = .ok (.invokevirtual 354, 3) := by decide +kernel
theorem dX9_poll_60 : decode cX9_poll 60 = .ok (.aload_n 0, 1) := by decide +kernel
theorem dX9_poll_61 : decode cX9_poll 61 = .ok (.iload_n 1, 1) := by decide +kernel
theorem dX9_poll_62 : decode cX9_poll 62 = .ok (.iload_n 2, 1) := by decide +kernel
theorem dX9_poll_63 : decode cX9_poll 63 = .ok (.invokevirtual 354, 3) := by decide +kernel
theorem dX9_poll_66 : decode cX9_poll 66 = .ok (.if_icmp .le 7, 3) := by decide +kernel
theorem dX9_poll_69 : decode cX9_poll 69 = .ok (.iload_n 3, 1) := by decide +kernel
theorem dX9_poll_70 : decode cX9_poll 70 = .ok (.goto 4, 3) := by decide +kernel
theorem dX9_poll_73 : decode cX9_poll 73 = .ok (.iload_n 2, 1) := by decide +kernel
theorem dX9_poll_74 : decode cX9_poll 74 = .ok (.istore_n 2, 1) := by decide +kernel
theorem dX9_poll_75 : decode cX9_poll 75 = .ok (.iinc 3 1, 3) := by decide +kernel
theorem dX9_poll_78 : decode cX9_poll 78 = .ok (.goto (-43), 3) := by decide +kernel
theorem dX9_poll_81 : decode cX9_poll 81 = .ok (.aload_n 0, 1) := by decide +kernel
theorem dX9_poll_82 : decode cX9_poll 82 = .ok (.getfield 113, 3) := by decide +kernel
theorem dX9_poll_85 : decode cX9_poll 85 = .ok (.iload_n 2, 1) := by decide +kernel
theorem dX9_poll_86 : decode cX9_poll 86 = .ok (.dup2, 1) := by decide +kernel
theorem dX9_poll_87 : decode cX9_poll 87 = .ok (.iaload, 1) := by decide +kernel
theorem dX9_poll_88 : decode cX9_poll 88 = .ok (.iconst 1, 1) := by decide +kernel
theorem dX9_poll_89 : decode cX9_poll 89 = .ok (.iadd, 1) := by decide +kernel
theorem dX9_poll_90 : decode cX9_poll 90 = .ok (.iastore, 1) := by decide +kernel
theorem dX9_poll_91 : decode cX9_poll 91 = .ok (.iinc 1 1, 3) := by decide +kernel
theorem dX9_poll_94 : decode cX9_poll 94 = .ok (.goto (-71), 3) := by decide +kernel
theorem dX9_poll_97 : decode cX9_poll 97 = .ok (.return_, 1) := by decide +kernel
theorem dX9_mostVotes_0 : decode cX9_mostVotes 0 = .ok (.iconst 1, 1) := by decide +kernel
theorem dX9_mostVotes_1 : decode cX9_mostVotes 1 = .ok (.istore_n 1, 1) := by decide +kernel
theorem dX9_mostVotes_2 : decode cX9_mostVotes 2 = .ok (.iconst 2, 1) := by decide +kernel
theorem dX9_mostVotes_3 : decode cX9_mostVotes 3 = .ok (.istore_n 2, 1) := by decide +kernel
theorem dX9_mostVotes_4 : decode cX9_mostVotes 4 = .ok (.iload_n 2, 1) := by decide +kernel
theorem dX9_mostVotes_5 : decode cX9_mostVotes 5 = .ok (.bipush 24, 2) := by decide +kernel
theorem dX9_mostVotes_7 : decode cX9_mostVotes 7 = .ok (.if_icmp .gt 30, 3) := by decide +kernel
theorem dX9_mostVotes_10 : decode cX9_mostVotes 10 = .ok (.aload_n 0, 1) := by decide +kernel
theorem dX9_mostVotes_11 : decode cX9_mostVotes 11 = .ok (.getfield 113, 3) := by decide +kernel
theorem dX9_mostVotes_14 : decode cX9_mostVotes 14 = .ok (.iload_n 2, 1) := by decide +kernel
theorem dX9_mostVotes_15 : decode cX9_mostVotes 15 = .ok (.iaload, 1) := by decide +kernel
theorem dX9_mostVotes_16 : decode cX9_mostVotes 16 = .ok (.aload_n 0, 1) := by decide +kernel
theorem dX9_mostVotes_17 : decode cX9_mostVotes 17 = .ok (.getfield 113, 3) := by decide +kernel
theorem dX9_mostVotes_20 : decode cX9_mostVotes 20 = .ok (.iload_n 1, 1) := by decide +kernel
theorem dX9_mostVotes_21 : decode cX9_mostVotes 21 = .ok (.iaload, 1) := by decide +kernel
theorem dX9_mostVotes_22 : decode cX9_mostVotes 22 = .ok (.if_icmp .le 7, 3) := by decide +kernel
theorem dX9_mostVotes_25 : decode cX9_mostVotes 25 = .ok (.iload_n 2, 1) := by decide +kernel
theorem dX9_mostVotes_26 : decode cX9_mostVotes 26 = .ok (.goto 4, 3) := by decide +kernel
theorem dX9_mostVotes_29 : decode cX9_mostVotes 29 = .ok (.iload_n 1, 1) := by decide +kernel
theorem dX9_mostVotes_30 : decode cX9_mostVotes 30 = .ok (.istore_n 1, 1) := by decide +kernel
theorem dX9_mostVotes_31 : decode cX9_mostVotes 31 = .ok (.iinc 2 1, 3) := by decide +kernel
theorem dX9_mostVotes_34 : decode cX9_mostVotes 34 = .ok (.goto (-30), 3) := by decide +kernel
theorem dX9_mostVotes_37 : decode cX9_mostVotes 37 = .ok (.iload_n 1, 1) := by decide +kernel
theorem dX9_mostVotes_38 : decode cX9_mostVotes 38 = .ok (.ireturn, 1) := by decide +kernel
theorem dX9_allAreLeft_0 : decode cX9_allAreLeft 0 = .ok (.iconst 1, 1) := by decide +kernel
theorem dX9_allAreLeft_1 : decode cX9_allAreLeft 1 = .ok (.istore_n 1, 1) := by decide +kernel
theorem dX9_allAreLeft_2 : decode cX9_allAreLeft 2 = .ok (.iload_n 1, 1) := by decide +kernel
theorem dX9_allAreLeft_3 : decode cX9_allAreLeft 3 = .ok (.bipush 24, 2) := by decide +kernel
theorem dX9_allAreLeft_5 : decode cX9_allAreLeft 5 = .ok (.if_icmp .gt 16, 3) := by decide +kernel
theorem dX9_allAreLeft_8 : decode cX9_allAreLeft 8 = .ok (.aload_n 0, 1) := by decide +kernel
theorem dX9_allAreLeft_9 : decode cX9_allAreLeft 9 = .ok (.getfield 109, 3) := by decide +kernel
theorem dX9_allAreLeft_12 : decode cX9_allAreLeft 12 = .ok (.iload_n 1, 1) := by decide +kernel
theorem dX9_allAreLeft_13 : decode cX9_allAreLeft 13 = .ok (.iconst 1, 1) := by decide +kernel
theorem dX9_allAreLeft_14 : decode cX9_allAreLeft 14 = .ok (.bastore, 1) := by decide +kernel
theorem dX9_allAreLeft_15 : decode cX9_allAreLeft 15 = .ok (.iinc 1 1, 3) := by decide +kernel
theorem dX9_allAreLeft_18 : decode cX9_allAreLeft 18 = .ok (.goto (-16), 3) := by decide +kernel
theorem dX9_allAreLeft_21 : decode cX9_allAreLeft 21 = .ok (.return_, 1) := by decide +kernel
theorem dX9_bySums_0 : decode cX9_bySums 0 = .ok (.iconst 1, 1) := by decide +kernel
theorem dX9_bySums_1 : decode cX9_bySums 1 = .ok (.istore_n 2, 1) := by decide +kernel
theorem dX9_bySums_2 : decode cX9_bySums 2 = .ok (.iload_n 2, 1) := by decide +kernel
theorem dX9_bySums_3 : decode cX9_bySums 3 = .ok (.bipush 24, 2) := by decide +kernel
theorem dX9_bySums_5 : decode cX9_bySums 5 = .ok (.if_icmp .gt 153, 3) := by decide +kernel
theorem dX9_bySums_8 : decode cX9_bySums 8 = .ok (.aload_n 0, 1) := by decide +kernel
theorem dX9_bySums_9 : decode cX9_bySums 9 = .ok (.getfield 113, 3) := by decide +kernel
theorem dX9_bySums_12 : decode cX9_bySums 12 = .ok (.iload_n 2, 1) := by decide +kernel
theorem dX9_bySums_13 : decode cX9_bySums 13 = .ok (.iload_n 1, 1) := by decide +kernel
theorem dX9_bySums_14 : decode cX9_bySums 14 = .ok (.iconst 5, 1) := by decide +kernel
theorem dX9_bySums_15 : decode cX9_bySums 15 = .ok (.if_icmp .ne 8, 3) := by decide +kernel
theorem dX9_bySums_18 : decode cX9_bySums 18 = .ok (.bipush 100, 2) := by decide +kernel
theorem dX9_bySums_20 : decode cX9_bySums 20 = .ok (.goto 4, 3) := by decide +kernel
theorem dX9_bySums_23 : decode cX9_bySums 23 = .ok (.iconst 0, 1) := by decide +kernel
theorem dX9_bySums_24 : decode cX9_bySums 24 = .ok (.iastore, 1) := by decide +kernel
theorem dX9_bySums_25 : decode cX9_bySums 25 = .ok (.iconst 0, 1) := by decide +kernel
theorem dX9_bySums_26 : decode cX9_bySums 26 = .ok (.istore_n 3, 1) := by decide +kernel
theorem dX9_bySums_27 : decode cX9_bySums 27 = .ok (.iload_n 3, 1) := by decide +kernel
theorem dX9_bySums_28 : decode cX9_bySums 28 = .ok (.aload_n 0, 1) := by decide +kernel
theorem dX9_bySums_29 : decode cX9_bySums 29 = .ok (.invokevirtual 348, 3) := by decide +kernel
theorem dX9_bySums_32 : decode cX9_bySums 32 = .ok (.if_icmp .ge 120, 3) := by decide +kernel
theorem dX9_bySums_35 : decode cX9_bySums 35 = .ok (.aload_n 0, 1) := by decide +kernel
theorem dX9_bySums_36 : decode cX9_bySums 36 = .ok (.iload_n 3, 1) := by decide +kernel
theorem dX9_bySums_37 : decode cX9_bySums 37 = .ok (.iload_n 2, 1) := by decide +kernel
theorem dX9_bySums_38 : decode cX9_bySums 38 = .ok (.invokevirtual 354, 3) := by decide +kernel
theorem dX9_bySums_41 : decode cX9_bySums 41 = .ok (.istore 4, 2) := by decide +kernel
theorem dX9_bySums_43 : decode cX9_bySums 43 = .ok (.iconst 0, 1) := by decide +kernel
theorem dX9_bySums_44 : decode cX9_bySums 44 = .ok (.istore 5, 2) := by decide +kernel
theorem dX9_bySums_46 : decode cX9_bySums 46 = .ok (.iconst 1, 1) := by decide +kernel
theorem dX9_bySums_47 : decode cX9_bySums 47 = .ok (.istore 6, 2) := by decide +kernel
theorem dX9_bySums_49 : decode cX9_bySums 49 = .ok (.iload 6, 2) := by decide +kernel
theorem dX9_bySums_51 : decode cX9_bySums 51 = .ok (.bipush 24, 2) := by decide +kernel
theorem dX9_bySums_53 : decode cX9_bySums 53 = .ok (.if_icmp .gt 31, 3) := by decide +kernel
theorem dX9_bySums_56 : decode cX9_bySums 56 = .ok (.iload 5, 2) := by decide +kernel
theorem dX9_bySums_58 : decode cX9_bySums 58 = .ok (.aload_n 0, 1) := by decide +kernel
theorem dX9_bySums_59 : decode cX9_bySums 59 = .ok (.iload_n 3, 1) := by decide +kernel
theorem dX9_bySums_60 : decode cX9_bySums 60 = .ok (.iload 6, 2) := by decide +kernel
theorem dX9_bySums_62 : decode cX9_bySums 62 = .ok (.invokevirtual 354, 3) := by decide +kernel
theorem dX9_bySums_65 : decode cX9_bySums 65 = .ok (.iload 4, 2) := by decide +kernel
theorem dX9_bySums_67 : decode cX9_bySums 67 = .ok (.if_icmp .ge 7, 3) := by decide +kernel
theorem dX9_bySums_70 : decode cX9_bySums 70 = .ok (.iconst 1, 1) := by decide +kernel
theorem dX9_bySums_71 : decode cX9_bySums 71 = .ok (.goto 4, 3) := by decide +kernel
theorem dX9_bySums_74 : decode cX9_bySums 74 = .ok (.iconst 0, 1) := by decide +kernel
theorem dX9_bySums_75 : decode cX9_bySums 75 = .ok (.iadd, 1) := by decide +kernel
theorem dX9_bySums_76 : decode cX9_bySums 76 = .ok (.istore 5, 2) := by decide +kernel
theorem dX9_bySums_78 : decode cX9_bySums 78 = .ok (.iinc 6 1, 3) := by decide +kernel
theorem dX9_bySums_81 : decode cX9_bySums 81 = .ok (.goto (-32), 3) := by decide +kernel
theorem dX9_bySums_84 : decode cX9_bySums 84 = .ok (.aload_n 0, 1) := by decide +kernel
theorem dX9_bySums_85 : decode cX9_bySums 85 = .ok (.getfield 113, 3) := by decide +kernel
theorem dX9_bySums_88 : decode cX9_bySums 88 = .ok (.iload_n 2, 1) := by decide +kernel
theorem dX9_bySums_89 : decode cX9_bySums 89 = .ok (.iload_n 1, 1) := by decide +kernel
theorem dX9_bySums_90 : decode cX9_bySums 90 = .ok (.iconst 1, 1) := by decide +kernel
theorem dX9_bySums_91 : decode cX9_bySums 91 = .ok (.if_icmp .ne 15, 3) := by decide +kernel
theorem dX9_bySums_94 : decode cX9_bySums 94 = .ok (.aload_n 0, 1) := by decide +kernel
theorem dX9_bySums_95 : decode cX9_bySums 95 = .ok (.getfield 113, 3) := by decide +kernel
theorem dX9_bySums_98 : decode cX9_bySums 98 = .ok (.iload_n 2, 1) := by decide +kernel
theorem dX9_bySums_99 : decode cX9_bySums 99 = .ok (.iaload, 1) := by decide +kernel
theorem dX9_bySums_100 : decode cX9_bySums 100 = .ok (.iload 4, 2) := by decide +kernel
theorem dX9_bySums_102 : decode cX9_bySums 102 = .ok (.iadd, 1) := by decide +kernel
theorem dX9_bySums_103 : decode cX9_bySums 103 = .ok (.goto 42, 3) := by decide +kernel
theorem dX9_bySums_106 : decode cX9_bySums 106 = .ok (.iload_n 1, 1) := by decide +kernel
theorem dX9_bySums_107 : decode cX9_bySums 107 = .ok (.iconst 2, 1) := by decide +kernel
theorem dX9_bySums_108 : decode cX9_bySums 108 = .ok (.if_icmp .ne 15, 3) := by decide +kernel
theorem dX9_bySums_111 : decode cX9_bySums 111 = .ok (.aload_n 0, 1) := by decide +kernel
theorem dX9_bySums_112 : decode cX9_bySums 112 = .ok (.getfield 113, 3) := by decide +kernel
theorem dX9_bySums_115 : decode cX9_bySums 115 = .ok (.iload_n 2, 1) := by decide +kernel
theorem dX9_bySums_116 : decode cX9_bySums 116 = .ok (.iaload, 1) := by decide +kernel
theorem dX9_bySums_117 : decode cX9_bySums 117 = .ok (.iload 5, 2) := by decide +kernel
theorem dX9_bySums_119 : decode cX9_bySums 119 = .ok (.iadd, 1) := by decide +kernel
theorem dX9_bySums_120 : decode cX9_bySums 120 = .ok (.goto 25, 3) := by decide +kernel
theorem dX9_bySums_123 : decode cX9_bySums 123 = .ok (.iload 4, 2) := by decide +kernel
theorem dX9_bySums_125 : decode cX9_bySums 125 = .ok (.aload_n 0, 1) := by decide +kernel
theorem dX9_bySums_126 : decode cX9_bySums 126 = .ok (.getfield 113, 3) := by decide +kernel
theorem dX9_bySums_129 : decode cX9_bySums 129 = .ok (.iload_n 2, 1) := by decide +kernel
theorem dX9_bySums_130 : decode cX9_bySums 130 = .ok (.iaload, 1) := by decide +kernel
theorem dX9_bySums_131 : decode cX9_bySums 131 = .ok (.if_icmp .ge 8, 3) := by decide +kernel
theorem dX9_bySums_134 : decode cX9_bySums 134 = .ok (.iload 4, 2) := by decide +kernel
theorem dX9_bySums_136 : decode cX9_bySums 136 = .ok (.goto 9, 3) := by decide +kernel
theorem dX9_bySums_139 : decode cX9_bySums 139 = .ok (.aload_n 0, 1) := by decide +kernel
theorem dX9_bySums_140 : decode cX9_bySums 140 = .ok (.getfield 113, 3) := by decide +kernel
theorem dX9_bySums_143 : decode cX9_bySums 143 = .ok (.iload_n 2, 1) := by decide +kernel
theorem dX9_bySums_144 : decode cX9_bySums 144 = .ok (.iaload, 1) := by decide +kernel
theorem dX9_bySums_145 : decode cX9_bySums 145 = .ok (.iastore, 1) := by decide +kernel
theorem dX9_bySums_146 : decode cX9_bySums 146 = .ok (.iinc 3 1, 3) := by decide +kernel
theorem dX9_bySums_149 : decode cX9_bySums 149 = .ok (.goto (-122), 3) := by decide +kernel
theorem dX9_bySums_152 : decode cX9_bySums 152 = .ok (.iinc 2 1, 3) := by decide +kernel
theorem dX9_bySums_155 : decode cX9_bySums 155 = .ok (.goto (-153), 3) := by decide +kernel
theorem dX9_bySums_158 : decode cX9_bySums 158 = .ok (.aload_n 0, 1) := by decide +kernel
theorem dX9_bySums_159 : decode cX9_bySums 159 = .ok (.invokevirtual 360, 3) := by decide +kernel
theorem dX9_bySums_162 : decode cX9_bySums 162 = .ok (.ireturn, 1) := by decide +kernel
theorem dX9_byPairs_0 : decode cX9_byPairs 0 = .ok (.iconst 1, 1) := by decide +kernel
theorem dX9_byPairs_1 : decode cX9_byPairs 1 = .ok (.istore_n 1, 1) := by decide +kernel
theorem dX9_byPairs_2 : decode cX9_byPairs 2 = .ok (.iload_n 1, 1) := by decide +kernel
theorem dX9_byPairs_3 : decode cX9_byPairs 3 = .ok (.bipush 24, 2) := by decide +kernel
theorem dX9_byPairs_5 : decode cX9_byPairs 5 = .ok (.if_icmp .gt 61, 3) := by decide +kernel
theorem dX9_byPairs_8 : decode cX9_byPairs 8 = .ok (.iconst 1, 1) := by decide +kernel
theorem dX9_byPairs_9 : decode cX9_byPairs 9 = .ok (.istore_n 2, 1) := by decide +kernel
theorem dX9_byPairs_10 : decode cX9_byPairs 10 = .ok (.iconst 1, 1) := by decide +kernel
theorem dX9_byPairs_11 : decode cX9_byPairs 11 = .ok (.istore_n 3, 1) := by decide +kernel
theorem dX9_byPairs_12 : decode cX9_byPairs 12 = .ok (.iload_n 3, 1) := by decide +kernel
theorem dX9_byPairs_13 : decode cX9_byPairs 13 = .ok (.bipush 24, 2) := by decide +kernel
theorem dX9_byPairs_15 : decode cX9_byPairs 15 = .ok (.if_icmp .gt 39, 3) := by decide +kernel
theorem dX9_byPairs_18 : decode cX9_byPairs 18 = .ok (.iload_n 2, 1) := by decide +kernel
theorem dX9_byPairs_19 : decode cX9_byPairs 19 = .ok (.ifCond .eq 27, 3) := by decide +kernel
theorem dX9_byPairs_22 : decode cX9_byPairs 22 = .ok (.iload_n 3, 1) := by decide +kernel
theorem dX9_byPairs_23 : decode cX9_byPairs 23 = .ok (.iload_n 1, 1) := by decide +kernel
theorem dX9_byPairs_24 : decode cX9_byPairs 24 = .ok (.if_icmp .eq 18, 3) := by decide +kernel
theorem dX9_byPairs_27 : decode cX9_byPairs 27 = .ok (.aload_n 0, 1) := by decide +kernel
theorem dX9_byPairs_28 : decode cX9_byPairs 28 = .ok (.iload_n 1, 1) := by decide +kernel
theorem dX9_byPairs_29 : decode cX9_byPairs 29 = .ok (.iload_n 3, 1) := by decide +kernel
theorem dX9_byPairs_30 : decode cX9_byPairs 30 = .ok (.invokevirtual 357, 3) := by decide +kernel
theorem dX9_byPairs_33 : decode cX9_byPairs 33 = .ok (.aload_n 0, 1) := by decide +kernel
theorem dX9_byPairs_34 : decode cX9_byPairs 34 = .ok (.iload_n 3, 1) := by decide +kernel
theorem dX9_byPairs_35 : decode cX9_byPairs 35 = .ok (.iload_n 1, 1) := by decide +kernel
theorem dX9_byPairs_36 : decode cX9_byPairs 36 = .ok (.invokevirtual 357, 3) := by decide +kernel
theorem dX9_byPairs_39 : decode cX9_byPairs 39 = .ok (.if_icmp .le 7, 3) := by decide +kernel
theorem dX9_byPairs_42 : decode cX9_byPairs 42 = .ok (.iconst 1, 1) := by decide +kernel
theorem dX9_byPairs_43 : decode cX9_byPairs 43 = .ok (.goto 4, 3) := by decide +kernel
theorem dX9_byPairs_46 : decode cX9_byPairs 46 = .ok (.iconst 0, 1) := by decide +kernel
theorem dX9_byPairs_47 : decode cX9_byPairs 47 = .ok (.istore_n 2, 1) := by decide +kernel
theorem dX9_byPairs_48 : decode cX9_byPairs 48 = .ok (.iinc 3 1, 3) := by decide +kernel
theorem dX9_byPairs_51 : decode cX9_byPairs 51 = .ok (.goto (-39), 3) := by decide +kernel
theorem dX9_byPairs_54 : decode cX9_byPairs 54 = .ok (.iload_n 2, 1) := by decide +kernel
theorem dX9_byPairs_55 : decode cX9_byPairs 55 = .ok (.ifCond .eq 5, 3) := by decide +kernel
theorem dX9_byPairs_58 : decode cX9_byPairs 58 = .ok (.iload_n 1, 1) := by decide +kernel
theorem dX9_byPairs_59 : decode cX9_byPairs 59 = .ok (.ireturn, 1) := by decide +kernel
theorem dX9_byPairs_60 : decode cX9_byPairs 60 = .ok (.iinc 1 1, 3) := by decide +kernel
theorem dX9_byPairs_63 : decode cX9_byPairs 63 = .ok (.goto (-61), 3) := by decide +kernel
theorem dX9_byPairs_66 : decode cX9_byPairs 66 = .ok (.iconst (-1), 1) := by decide +kernel
theorem dX9_byPairs_67 : decode cX9_byPairs 67 = .ok (.ireturn, 1) := by decide +kernel
theorem dX9_byRun_0 : decode cX9_byRun 0 = .ok (.aload_n 0, 1) := by decide +kernel
theorem dX9_byRun_1 : decode cX9_byRun 1 = .ok (.invokevirtual 363, 3) := by decide +kernel
theorem dX9_byRun_4 : decode cX9_byRun 4 = .ok (.bipush 24, 2) := by decide +kernel
theorem dX9_byRun_6 : decode cX9_byRun 6 = .ok (.istore_n 1, 1) := by decide +kernel
theorem dX9_byRun_7 : decode cX9_byRun 7 = .ok (.aload_n 0, 1) := by decide +kernel
theorem dX9_byRun_8 : decode cX9_byRun 8 = .ok (.invokevirtual 366, 3) := by decide +kernel
theorem dX9_byRun_11 : decode cX9_byRun 11 = .ok (.aload_n 0, 1) := by decide +kernel
theorem dX9_byRun_12 : decode cX9_byRun 12 = .ok (.invokevirtual 360, 3) := by decide +kernel
theorem dX9_byRun_15 : decode cX9_byRun 15 = .ok (.istore_n 2, 1) := by decide +kernel
theorem dX9_byRun_16 : decode cX9_byRun 16 = .ok (.iconst 2, 1) := by decide +kernel
theorem dX9_byRun_17 : decode cX9_byRun 17 = .ok (.aload_n 0, 1) := by decide +kernel
theorem dX9_byRun_18 : decode cX9_byRun 18 = .ok (.getfield 113, 3) := by decide +kernel
theorem dX9_byRun_21 : decode cX9_byRun 21 = .ok (.iload_n 2, 1) := by decide +kernel
theorem dX9_byRun_22 : decode cX9_byRun 22 = .ok (.iaload, 1) := by decide +kernel
theorem dX9_byRun_23 : decode cX9_byRun 23 = .ok (.imul, 1) := by decide +kernel
theorem dX9_byRun_24 : decode cX9_byRun 24 = .ok (.aload_n 0, 1) := by decide +kernel
theorem dX9_byRun_25 : decode cX9_byRun 25 = .ok (.invokevirtual 348, 3) := by decide +kernel
theorem dX9_byRun_28 : decode cX9_byRun 28 = .ok (.if_icmp .gt 8, 3) := by decide +kernel
theorem dX9_byRun_31 : decode cX9_byRun 31 = .ok (.iload_n 1, 1) := by decide +kernel
theorem dX9_byRun_32 : decode cX9_byRun 32 = .ok (.iconst 1, 1) := by decide +kernel
theorem dX9_byRun_33 : decode cX9_byRun 33 = .ok (.if_icmp .ne 5, 3) := by decide +kernel
theorem dX9_byRun_36 : decode cX9_byRun 36 = .ok (.iload_n 2, 1) := by decide +kernel
theorem dX9_byRun_37 : decode cX9_byRun 37 = .ok (.ireturn, 1) := by decide +kernel
theorem dX9_byRun_38 : decode cX9_byRun 38 = .ok (.iconst 0, 1) := by decide +kernel
theorem dX9_byRun_39 : decode cX9_byRun 39 = .ok (.istore_n 3, 1) := by decide +kernel
theorem dX9_byRun_40 : decode cX9_byRun 40 = .ok (.iconst 1, 1) := by decide +kernel
theorem dX9_byRun_41 : decode cX9_byRun 41 = .ok (.istore 4, 2) := by decide +kernel
theorem dX9_byRun_43 : decode cX9_byRun 43 = .ok (.iload 4, 2) := by decide +kernel
theorem dX9_byRun_45 : decode cX9_byRun 45 = .ok (.bipush 24, 2) := by decide +kernel
theorem dX9_byRun_47 : decode cX9_byRun 47 = .ok (.if_icmp .gt 46, 3) := by decide +kernel
theorem dX9_byRun_50 : decode cX9_byRun 50 = .ok (.aload_n 0, 1) := by decide +kernel
theorem dX9_byRun_51 : decode cX9_byRun 51 = .ok (.getfield 109, 3) := by decide +kernel
theorem dX9_byRun_54 : decode cX9_byRun 54 = .ok (.iload 4, 2) := by decide +kernel
theorem dX9_byRun_56 : decode cX9_byRun 56 = .ok (.baload, 1) := by decide +kernel
theorem dX9_byRun_57 : decode cX9_byRun 57 = .ok (.ifCond .eq 28, 3) := by decide +kernel
theorem dX9_byRun_60 : decode cX9_byRun 60 = .ok (.iload_n 3, 1) := by decide +kernel
theorem dX9_byRun_61 : decode cX9_byRun 61 = .ok (.ifCond .eq 19, 3) := by decide +kernel
theorem dX9_byRun_64 : decode cX9_byRun 64 = .ok (.aload_n 0, 1) := by decide +kernel
theorem dX9_byRun_65 : decode cX9_byRun 65 = .ok (.getfield 113, 3) := by decide +kernel
theorem dX9_byRun_68 : decode cX9_byRun 68 = .ok (.iload 4, 2) := by decide +kernel
theorem dX9_byRun_70 : decode cX9_byRun 70 = .ok (.iaload, 1) := by decide +kernel
theorem dX9_byRun_71 : decode cX9_byRun 71 = .ok (.aload_n 0, 1) := by decide +kernel
theorem dX9_byRun_72 : decode cX9_byRun 72 = .ok (.getfield 113, 3) := by decide +kernel
theorem dX9_byRun_75 : decode cX9_byRun 75 = .ok (.iload_n 3, 1) := by decide +kernel
theorem dX9_byRun_76 : decode cX9_byRun 76 = .ok (.iaload, 1) := by decide +kernel
theorem dX9_byRun_77 : decode cX9_byRun 77 = .ok (.if_icmp .gt 8, 3) := by decide +kernel
theorem dX9_byRun_80 : decode cX9_byRun 80 = .ok (.iload 4, 2) := by decide +kernel
theorem dX9_byRun_82 : decode cX9_byRun 82 = .ok (.goto 4, 3) := by decide +kernel
theorem dX9_byRun_85 : decode cX9_byRun 85 = .ok (.iload_n 3, 1) := by decide +kernel
theorem dX9_byRun_86 : decode cX9_byRun 86 = .ok (.istore_n 3, 1) := by decide +kernel
theorem dX9_byRun_87 : decode cX9_byRun 87 = .ok (.iinc 4 1, 3) := by decide +kernel
theorem dX9_byRun_90 : decode cX9_byRun 90 = .ok (.goto (-47), 3) := by decide +kernel
theorem dX9_byRun_93 : decode cX9_byRun 93 = .ok (.aload_n 0, 1) := by decide +kernel
theorem dX9_byRun_94 : decode cX9_byRun 94 = .ok (.getfield 109, 3) := by decide +kernel
theorem dX9_byRun_97 : decode cX9_byRun 97 = .ok (.iload_n 3, 1) := by decide +kernel
theorem dX9_byRun_98 : decode cX9_byRun 98 = .ok (.iconst 0, 1) := by decide +kernel
theorem dX9_byRun_99 : decode cX9_byRun 99 = .ok (.bastore, 1) := by decide +kernel
theorem dX9_byRun_100 : decode cX9_byRun 100 = .ok (.iinc 1 (-1), 3) := by decide +kernel
theorem dX9_byRun_103 : decode cX9_byRun 103 = .ok (.goto (-96), 3) := by decide +kernel
theorem dX9_vote_0 : decode cX9_vote 0 = .ok (.aload_n 0, 1) := by decide +kernel
theorem dX9_vote_1 : decode cX9_vote 1 = .ok (.iconst 0, 1) := by decide +kernel
theorem dX9_vote_2 : decode cX9_vote 2 = .ok (.putfield 1, 3) := by decide +kernel
theorem dX9_vote_5 : decode cX9_vote 5 = .ok (.iload_n 1, 1) := by decide +kernel
theorem dX9_vote_6 : decode cX9_vote 6 = .ok (.iconst 0, 1) := by decide +kernel
theorem dX9_vote_7 : decode cX9_vote 7 = .ok (.iconst 5, 1) := by decide +kernel
theorem dX9_vote_8 : decode cX9_vote 8 = .ok (.invokestatic 262, 3) := by decide +kernel
theorem dX9_vote_11 : decode cX9_vote 11 = .ok (.ifCond .eq 10, 3) := by decide +kernel
theorem dX9_vote_14 : decode cX9_vote 14 = .ok (.aload_n 0, 1) := by decide +kernel
theorem dX9_vote_15 : decode cX9_vote 15 = .ok (.invokevirtual 348, 3) := by decide +kernel
theorem dX9_vote_18 : decode cX9_vote 18 = .ok (.ifCond .ne 5, 3) := by decide +kernel
theorem dX9_vote_21 : decode cX9_vote 21 = .ok (.iconst (-1), 1) := by decide +kernel
theorem dX9_vote_22 : decode cX9_vote 22 = .ok (.ireturn, 1) := by decide +kernel
theorem dX9_vote_23 : decode cX9_vote 23 = .ok (.iload_n 1, 1) := by decide +kernel
theorem dX9_vote_24 : decode cX9_vote 24 = .ok (.ifCond .ne 16, 3) := by decide +kernel
theorem dX9_vote_27 : decode cX9_vote 27 = .ok (.aload_n 0, 1) := by decide +kernel
theorem dX9_vote_28 : decode cX9_vote 28 = .ok (.invokevirtual 363, 3) := by decide +kernel
theorem dX9_vote_31 : decode cX9_vote 31 = .ok (.aload_n 0, 1) := by decide +kernel
theorem dX9_vote_32 : decode cX9_vote 32 = .ok (.invokevirtual 366, 3) := by decide +kernel
theorem dX9_vote_35 : decode cX9_vote 35 = .ok (.aload_n 0, 1) := by decide +kernel
theorem dX9_vote_36 : decode cX9_vote 36 = .ok (.invokevirtual 360, 3) := by decide +kernel
theorem dX9_vote_39 : decode cX9_vote 39 = .ok (.ireturn, 1) := by decide +kernel
theorem dX9_vote_40 : decode cX9_vote 40 = .ok (.iload_n 1, 1) := by decide +kernel
theorem dX9_vote_41 : decode cX9_vote 41 = .ok (.iconst 3, 1) := by decide +kernel
theorem dX9_vote_42 : decode cX9_vote 42 = .ok (.if_icmp .ne 10, 3) := by decide +kernel
theorem dX9_vote_45 : decode cX9_vote 45 = .ok (.aload_n 0, 1) := by decide +kernel
theorem dX9_vote_46 : decode cX9_vote 46 = .ok (.invokevirtual 369, 3) := by decide +kernel
theorem dX9_vote_49 : decode cX9_vote 49 = .ok (.goto 20, 3) := by decide +kernel
theorem dX9_vote_52 : decode cX9_vote 52 = .ok (.iload_n 1, 1) := by decide +kernel
theorem dX9_vote_53 : decode cX9_vote 53 = .ok (.iconst 4, 1) := by decide +kernel
theorem dX9_vote_54 : decode cX9_vote 54 = .ok (.if_icmp .ne 10, 3) := by decide +kernel
theorem dX9_vote_57 : decode cX9_vote 57 = .ok (.aload_n 0, 1) := by decide +kernel
theorem dX9_vote_58 : decode cX9_vote 58 = .ok (.invokevirtual 372, 3) := by decide +kernel
theorem dX9_vote_61 : decode cX9_vote 61 = .ok (.goto 8, 3) := by decide +kernel
theorem dX9_vote_64 : decode cX9_vote 64 = .ok (.aload_n 0, 1) := by decide +kernel
theorem dX9_vote_65 : decode cX9_vote 65 = .ok (.iload_n 1, 1) := by decide +kernel
theorem dX9_vote_66 : decode cX9_vote 66 = .ok (.invokevirtual 375, 3) := by decide +kernel
theorem dX9_vote_69 : decode cX9_vote 69 = .ok (.ireturn, 1) := by decide +kernel
theorem dX9_wayOf_0 : decode cX9_wayOf 0 = .ok (.iload_n 1, 1) := by decide +kernel
theorem dX9_wayOf_1 : decode cX9_wayOf 1 = .ok (.iload_n 2, 1) := by decide +kernel
theorem dX9_wayOf_2 : decode cX9_wayOf 2 = .ok (.if_icmp .ne 5, 3) := by decide +kernel
theorem dX9_wayOf_5 : decode cX9_wayOf 5 = .ok (.iconst 0, 1) := by decide +kernel
theorem dX9_wayOf_6 : decode cX9_wayOf 6 = .ok (.ireturn, 1) := by decide +kernel
theorem dX9_wayOf_7 : decode cX9_wayOf 7 = .ok (.iconst 3, 1) := by decide +kernel
theorem dX9_wayOf_8 : decode cX9_wayOf 8 = .ok (.iload_n 1, 1) := by decide +kernel
theorem dX9_wayOf_9 : decode cX9_wayOf 9 = .ok (.isub, 1) := by decide +kernel
theorem dX9_wayOf_10 : decode cX9_wayOf 10 = .ok (.iload_n 2, 1) := by decide +kernel
theorem dX9_wayOf_11 : decode cX9_wayOf 11 = .ok (.isub, 1) := by decide +kernel
theorem dX9_wayOf_12 : decode cX9_wayOf 12 = .ok (.istore_n 3, 1) := by decide +kernel
theorem dX9_wayOf_13 : decode cX9_wayOf 13 = .ok (.aload_n 0, 1) := by decide +kernel
theorem dX9_wayOf_14 : decode cX9_wayOf 14 = .ok (.getfield 73, 3) := by decide +kernel
theorem dX9_wayOf_17 : decode cX9_wayOf 17 = .ok (.bipush 76, 2) := by decide +kernel
theorem dX9_wayOf_19 : decode cX9_wayOf 19 = .ok (.iconst 3, 1) := by decide +kernel
theorem dX9_wayOf_20 : decode cX9_wayOf 20 = .ok (.iload_n 1, 1) := by decide +kernel
theorem dX9_wayOf_21 : decode cX9_wayOf 21 = .ok (.imul, 1) := by decide +kernel
theorem dX9_wayOf_22 : decode cX9_wayOf 22 = .ok (.iadd, 1) := by decide +kernel
theorem dX9_wayOf_23 : decode cX9_wayOf 23 = .ok (.iload_n 2, 1) := by decide +kernel
theorem dX9_wayOf_24 : decode cX9_wayOf 24 = .ok (.iadd, 1) := by decide +kernel
theorem dX9_wayOf_25 : decode cX9_wayOf 25 = .ok (.iaload, 1) := by decide +kernel
theorem dX9_wayOf_26 : decode cX9_wayOf 26 = .ok (.istore 4, 2) := by decide +kernel
theorem dX9_wayOf_28 : decode cX9_wayOf 28 = .ok (.aload_n 0, 1) := by decide +kernel
theorem dX9_wayOf_29 : decode cX9_wayOf 29 = .ok (.getfield 73, 3) := by decide +kernel
theorem dX9_wayOf_32 : decode cX9_wayOf 32 = .ok (.bipush 76, 2) := by decide +kernel
theorem dX9_wayOf_34 : decode cX9_wayOf 34 = .ok (.iconst 3, 1) := by decide +kernel
theorem dX9_wayOf_35 : decode cX9_wayOf 35 = .ok (.iload_n 1, 1) := by decide +kernel
theorem dX9_wayOf_36 : decode cX9_wayOf 36 = .ok (.imul, 1) := by decide +kernel
theorem dX9_wayOf_37 : decode cX9_wayOf 37 = .ok (.iadd, 1) := by decide +kernel
theorem dX9_wayOf_38 : decode cX9_wayOf 38 = .ok (.iload_n 3, 1) := by decide +kernel
theorem dX9_wayOf_39 : decode cX9_wayOf 39 = .ok (.iadd, 1) := by decide +kernel
theorem dX9_wayOf_40 : decode cX9_wayOf 40 = .ok (.iaload, 1) := by decide +kernel
theorem dX9_wayOf_41 : decode cX9_wayOf 41 = .ok (.istore 5, 2) := by decide +kernel
theorem dX9_wayOf_43 : decode cX9_wayOf 43 = .ok (.aload_n 0, 1) := by decide +kernel
theorem dX9_wayOf_44 : decode cX9_wayOf 44 = .ok (.getfield 73, 3) := by decide +kernel
theorem dX9_wayOf_47 : decode cX9_wayOf 47 = .ok (.bipush 76, 2) := by decide +kernel
theorem dX9_wayOf_49 : decode cX9_wayOf 49 = .ok (.iconst 3, 1) := by decide +kernel
theorem dX9_wayOf_50 : decode cX9_wayOf 50 = .ok (.iload_n 3, 1) := by decide +kernel
theorem dX9_wayOf_51 : decode cX9_wayOf 51 = .ok (.imul, 1) := by decide +kernel
theorem dX9_wayOf_52 : decode cX9_wayOf 52 = .ok (.iadd, 1) := by decide +kernel
theorem dX9_wayOf_53 : decode cX9_wayOf 53 = .ok (.iload_n 2, 1) := by decide +kernel
theorem dX9_wayOf_54 : decode cX9_wayOf 54 = .ok (.iadd, 1) := by decide +kernel
theorem dX9_wayOf_55 : decode cX9_wayOf 55 = .ok (.iaload, 1) := by decide +kernel
theorem dX9_wayOf_56 : decode cX9_wayOf 56 = .ok (.istore 6, 2) := by decide +kernel
theorem dX9_wayOf_58 : decode cX9_wayOf 58 = .ok (.iload 4, 2) := by decide +kernel
theorem dX9_wayOf_60 : decode cX9_wayOf 60 = .ok (.ifCond .le 8, 3) := by decide +kernel
theorem dX9_wayOf_63 : decode cX9_wayOf 63 = .ok (.iload 4, 2) := by decide +kernel
theorem dX9_wayOf_65 : decode cX9_wayOf 65 = .ok (.goto 6, 3) := by decide +kernel
theorem dX9_wayOf_68 : decode cX9_wayOf 68 = .ok (.ldc_w 323, 3) := by decide +kernel
theorem dX9_wayOf_71 : decode cX9_wayOf 71 = .ok (.istore 7, 2) := by decide +kernel
theorem dX9_wayOf_73 : decode cX9_wayOf 73 = .ok (.iload 5, 2) := by decide +kernel
theorem dX9_wayOf_75 : decode cX9_wayOf 75 = .ok (.ifCond .le 16, 3) := by decide +kernel
theorem dX9_wayOf_78 : decode cX9_wayOf 78 = .ok (.iload 6, 2) := by decide +kernel
theorem dX9_wayOf_80 : decode cX9_wayOf 80 = .ok (.ifCond .le 11, 3) := by decide +kernel
theorem dX9_wayOf_83 : decode cX9_wayOf 83 = .ok (.iload 5, 2) := by decide +kernel
theorem dX9_wayOf_85 : decode cX9_wayOf 85 = .ok (.iload 6, 2) := by decide +kernel
theorem dX9_wayOf_87 : decode cX9_wayOf 87 = .ok (.iadd, 1) := by decide +kernel
theorem dX9_wayOf_88 : decode cX9_wayOf 88 = .ok (.goto 6, 3) := by decide +kernel
theorem dX9_wayOf_91 : decode cX9_wayOf 91 = .ok (.ldc_w 323, 3) := by decide +kernel
theorem dX9_wayOf_94 : decode cX9_wayOf 94 = .ok (.istore 8, 2) := by decide +kernel
theorem dX9_wayOf_96 : decode cX9_wayOf 96 = .ok (.iload 8, 2) := by decide +kernel
theorem dX9_wayOf_98 : decode cX9_wayOf 98 = .ok (.iload 7, 2) := by decide +kernel
theorem dX9_wayOf_100 : decode cX9_wayOf 100 = .ok (.if_icmp .ge 8, 3) := by decide +kernel
theorem dX9_wayOf_103 : decode cX9_wayOf 103 = .ok (.iload 8, 2) := by decide +kernel
theorem dX9_wayOf_105 : decode cX9_wayOf 105 = .ok (.goto 5, 3) := by decide +kernel
theorem dX9_wayOf_108 : decode cX9_wayOf 108 = .ok (.iload 7, 2) := by decide +kernel
theorem dX9_wayOf_110 : decode cX9_wayOf 110 = .ok (.ireturn, 1) := by decide +kernel
theorem dX9_way_0 : decode cX9_way 0 = .ok (.aload_n 0, 1) := by decide +kernel
theorem dX9_way_1 : decode cX9_way 1 = .ok (.iconst 0, 1) := by decide +kernel
theorem dX9_way_2 : decode cX9_way 2 = .ok (.putfield 1, 3) := by decide +kernel
theorem dX9_way_5 : decode cX9_way 5 = .ok (.aload_n 0, 1) := by decide +kernel
theorem dX9_way_6 : decode cX9_way 6 = .ok (.iload_n 1, 1) := by decide +kernel
theorem dX9_way_7 : decode cX9_way 7 = .ok (.invokevirtual 267, 3) := by decide +kernel
theorem dX9_way_10 : decode cX9_way 10 = .ok (.ifCond .eq 20, 3) := by decide +kernel
theorem dX9_way_13 : decode cX9_way 13 = .ok (.aload_n 0, 1) := by decide +kernel
theorem dX9_way_14 : decode cX9_way 14 = .ok (.iload_n 2, 1) := by decide +kernel
theorem dX9_way_15 : decode cX9_way 15 = .ok (.invokevirtual 267, 3) := by decide +kernel
theorem dX9_way_18 : decode cX9_way 18 = .ok (.ifCond .eq 12, 3) := by decide +kernel
theorem dX9_way_21 : decode cX9_way 21 = .ok (.aload_n 0, 1) := by decide +kernel
theorem dX9_way_22 : decode cX9_way 22 = .ok (.iload_n 1, 1) := by decide +kernel
theorem dX9_way_23 : decode cX9_way 23 = .ok (.iload_n 2, 1) := by decide +kernel
theorem dX9_way_24 : decode cX9_way 24 = .ok (.invokevirtual 378, 3) := by decide +kernel
theorem dX9_way_27 : decode cX9_way 27 = .ok (.goto 6, 3) := by decide +kernel
theorem dX9_way_30 : decode cX9_way 30 = .ok (.ldc_w 323, 3) := by decide +kernel
theorem dX9_way_33 : decode cX9_way 33 = .ok (.istore_n 3, 1) := by decide +kernel
theorem dX9_way_34 : decode cX9_way 34 = .ok (.iload_n 3, 1) := by decide +kernel
theorem dX9_way_35 : decode cX9_way 35 = .ok (.ldc_w 323, 3) := by decide +kernel
theorem dX9_way_38 : decode cX9_way 38 = .ok (.if_icmp .ge 7, 3) := by decide +kernel
theorem dX9_way_41 : decode cX9_way 41 = .ok (.iload_n 3, 1) := by decide +kernel
theorem dX9_way_42 : decode cX9_way 42 = .ok (.goto 4, 3) := by decide +kernel
theorem dX9_way_45 : decode cX9_way 45 = .ok (.iconst (-1), 1) := by decide +kernel
theorem dX9_way_46 : decode cX9_way 46 = .ok (.ireturn, 1) := by decide +kernel
theorem dX9_findEvents_0 : decode cX9_findEvents 0 = .ok (.aload_n 0, 1) := by decide +kernel
theorem dX9_findEvents_1 : decode cX9_findEvents 1 = .ok (.iconst 0, 1) := by decide +kernel
theorem dX9_findEvents_2 : decode cX9_findEvents 2 = .ok (.putfield 381, 3) := by decide +kernel
theorem dX9_findEvents_5 : decode cX9_findEvents 5 = .ok (.iconst 0, 1) := by decide +kernel
theorem dX9_findEvents_6 : decode cX9_findEvents 6 = .ok (.istore_n 3, 1) := by decide +kernel
theorem dX9_findEvents_7 : decode cX9_findEvents 7 = .ok (.iload_n 3, 1) := by decide +kernel
theorem dX9_findEvents_8 : decode cX9_findEvents 8 = .ok (.aload_n 0, 1) := by decide +kernel
theorem dX9_findEvents_9 : decode cX9_findEvents 9 = .ok (.invokevirtual 236, 3) := by decide +kernel
theorem dX9_findEvents_12 : decode cX9_findEvents 12 = .ok (.if_icmp .ge 148, 3) := by decide +kernel
theorem dX9_findEvents_15 : decode cX9_findEvents 15 = .ok (.iconst 0, 1) := by decide +kernel
theorem dX9_findEvents_16 : decode cX9_findEvents 16 = .ok (.istore 4, 2) := by decide +kernel
theorem dX9_findEvents_18 : decode cX9_findEvents 18 = .ok (.iload 4, 2) := by decide +kernel
theorem dX9_findEvents_20 : decode cX9_findEvents 20 = .ok (.aload_n 0, 1) := by decide +kernel
theorem dX9_findEvents_21 : decode cX9_findEvents 21 = .ok (.iload_n 3, 1) := by decide +kernel
theorem dX9_findEvents_22 : decode cX9_findEvents 22 = .ok (.invokevirtual 243, 3) := by decide +kernel
theorem dX9_findEvents_25 : decode cX9_findEvents 25 = .ok (.if_icmp .ge 129, 3) := by decide +kernel
theorem dX9_findEvents_28 : decode cX9_findEvents 28 = .ok (.aload_n 0, 1) := by decide +kernel
theorem dX9_findEvents_29 : decode cX9_findEvents 29 = .ok (.iload_n 3, 1) := by decide +kernel
theorem dX9_findEvents_30 : decode cX9_findEvents 30 = .ok (.iload 4, 2) := by decide +kernel
theorem dX9_findEvents_32 : decode cX9_findEvents 32 = .ok (.invokevirtual 240, 3) := by decide +kernel
theorem dX9_findEvents_35 : decode cX9_findEvents 35 = .ok (.iload_n 1, 1) := by decide +kernel
theorem dX9_findEvents_36 : decode cX9_findEvents 36 = .ok (.iload_n 2, 1) := by decide +kernel
theorem dX9_findEvents_37 : decode cX9_findEvents 37 = .ok (.invokestatic 262, 3) := by decide +kernel
theorem dX9_findEvents_40 : decode cX9_findEvents 40 = .ok (.ifCond .eq 108, 3) := by decide +kernel
theorem dX9_findEvents_43 : decode cX9_findEvents 43 = .ok (.aload_n 0, 1) := by decide +kernel
theorem dX9_findEvents_44 : decode cX9_findEvents 44 = .ok (.iload_n 3, 1) := by decide +kernel
theorem dX9_findEvents_45 : decode cX9_findEvents 45 = .ok (.iload 4, 2) := by decide +kernel
theorem dX9_findEvents_47 : decode cX9_findEvents 47 = .ok (.invokevirtual 250, 3) := by decide +kernel
theorem dX9_findEvents_50 : decode cX9_findEvents 50 = .ok (.bipush 60, 2) := by decide +kernel
theorem dX9_findEvents_52 : decode cX9_findEvents 52 = .ok (.iload 4, 2) := by decide +kernel
theorem dX9_findEvents_54 : decode cX9_findEvents 54 = .ok (.imul, 1) := by decide +kernel
theorem dX9_findEvents_55 : decode cX9_findEvents 55 = .ok (.iadd, 1) := by decide +kernel
theorem dX9_findEvents_56 : decode cX9_findEvents 56 = .ok (.istore 5, 2) := by decide +kernel
theorem dX9_findEvents_58 : decode cX9_findEvents 58 = .ok (.aload_n 0, 1) := by decide +kernel
theorem dX9_findEvents_59 : decode cX9_findEvents 59 = .ok (.getfield 381, 3) := by decide +kernel
theorem dX9_findEvents_62 : decode cX9_findEvents 62 = .ok (.istore 6, 2) := by decide +kernel
theorem dX9_findEvents_64 : decode cX9_findEvents 64 = .ok (.iload 6, 2) := by decide +kernel
theorem dX9_findEvents_66 : decode cX9_findEvents 66 = .ok (.ifCond .le 55, 3) := by decide +kernel
theorem dX9_findEvents_69 : decode cX9_findEvents 69 = .ok (.aload_n 0, 1) := by decide +kernel
theorem dX9_findEvents_70 : decode cX9_findEvents 70 = .ok (.getfield 119, 3) := by decide +kernel
theorem dX9_findEvents_73 : decode cX9_findEvents 73 = .ok (.iload 6, 2) := by decide +kernel
theorem dX9_findEvents_75 : decode cX9_findEvents 75 = .ok (.iconst 1, 1) := by decide +kernel
theorem dX9_findEvents_76 : decode cX9_findEvents 76 = .ok (.isub, 1) := by decide +kernel
theorem dX9_findEvents_77 : decode cX9_findEvents 77 = .ok (.iaload, 1) := by decide +kernel
theorem dX9_findEvents_78 : decode cX9_findEvents 78 = .ok (.iload 5, 2) := by decide +kernel
theorem dX9_findEvents_80 : decode cX9_findEvents 80 = .ok (.if_icmp .le 41, 3) := by decide +kernel
theorem dX9_findEvents_83 : decode cX9_findEvents 83 = .ok (.aload_n 0, 1) := by decide +kernel
theorem dX9_findEvents_84 : decode cX9_findEvents 84 = .ok (.getfield 119, 3) := by decide +kernel
theorem dX9_findEvents_87 : decode cX9_findEvents 87 = .ok (.iload 6, 2) := by decide +kernel
theorem dX9_findEvents_89 : decode cX9_findEvents 89 = .ok (.aload_n 0, 1) := by decide +kernel
theorem dX9_findEvents_90 : decode cX9_findEvents 90 = .ok (.getfield 119, 3) := by decide +kernel
theorem dX9_findEvents_93 : decode cX9_findEvents 93 = .ok (.iload 6, 2) := by decide +kernel
theorem dX9_findEvents_95 : decode cX9_findEvents 95 = .ok (.iconst 1, 1) := by decide +kernel
theorem dX9_findEvents_96 : decode cX9_findEvents 96 = .ok (.isub, 1) := by decide +kernel
theorem dX9_findEvents_97 : decode cX9_findEvents 97 = .ok (.iaload, 1) := by decide +kernel
theorem dX9_findEvents_98 : decode cX9_findEvents 98 = .ok (.iastore, 1) := by decide +kernel
theorem dX9_findEvents_99 : decode cX9_findEvents 99 = .ok (.aload_n 0, 1) := by decide +kernel
theorem dX9_findEvents_100 : decode cX9_findEvents 100 = .ok (.getfield 116, 3) := by decide +kernel
theorem dX9_findEvents_103 : decode cX9_findEvents 103 = .ok (.iload 6, 2) := by decide +kernel
theorem dX9_findEvents_105 : decode cX9_findEvents 105 = .ok (.aload_n 0, 1) := by decide +kernel
theorem dX9_findEvents_106 : decode cX9_findEvents 106 = .ok (.getfield 116, 3) := by decide +kernel
theorem dX9_findEvents_109 : decode cX9_findEvents 109 = .ok (.iload 6, 2) := by decide +kernel
theorem dX9_findEvents_111 : decode cX9_findEvents 111 = .ok (.iconst 1, 1) := by decide +kernel
theorem dX9_findEvents_112 : decode cX9_findEvents 112 = .ok (.isub, 1) := by decide +kernel
theorem dX9_findEvents_113 : decode cX9_findEvents 113 = .ok (.iaload, 1) := by decide +kernel
theorem dX9_findEvents_114 : decode cX9_findEvents 114 = .ok (.iastore, 1) := by decide +kernel
theorem dX9_findEvents_115 : decode cX9_findEvents 115 = .ok (.iinc 6 (-1), 3) := by decide +kernel
theorem dX9_findEvents_118 : decode cX9_findEvents 118 = .ok (.goto (-54), 3) := by decide +kernel
theorem dX9_findEvents_121 : decode cX9_findEvents 121 = .ok (.aload_n 0, 1) := by decide +kernel
theorem dX9_findEvents_122 : decode cX9_findEvents 122 = .ok (.getfield 119, 3) := by decide +kernel
theorem dX9_findEvents_125 : decode cX9_findEvents 125 = .ok (.iload 6, 2) := by decide +kernel
theorem dX9_findEvents_127 : decode cX9_findEvents 127 = .ok (.iload 5, 2) := by decide +kernel
theorem dX9_findEvents_129 : decode cX9_findEvents 129 = .ok (.iastore, 1) := by decide +kernel
theorem dX9_findEvents_130 : decode cX9_findEvents 130 = .ok (.aload_n 0, 1) := by decide +kernel
theorem dX9_findEvents_131 : decode cX9_findEvents 131 = .ok (.getfield 116, 3) := by decide +kernel
theorem dX9_findEvents_134 : decode cX9_findEvents 134 = .ok (.iload 6, 2) := by decide +kernel
theorem dX9_findEvents_136 : decode cX9_findEvents 136 = .ok (.iload_n 3, 1) := by decide +kernel
theorem dX9_findEvents_137 : decode cX9_findEvents 137 = .ok (.iastore, 1) := by decide +kernel
theorem dX9_findEvents_138 : decode cX9_findEvents 138 = .ok (.aload_n 0, 1) := by decide +kernel
theorem dX9_findEvents_139 : decode cX9_findEvents 139 = .ok (.dup, 1) := by decide +kernel
theorem dX9_findEvents_140 : decode cX9_findEvents 140 = .ok (.getfield 381, 3) := by decide +kernel
theorem dX9_findEvents_143 : decode cX9_findEvents 143 = .ok (.iconst 1, 1) := by decide +kernel
theorem dX9_findEvents_144 : decode cX9_findEvents 144 = .ok (.iadd, 1) := by decide +kernel
theorem dX9_findEvents_145 : decode cX9_findEvents 145 = .ok (.putfield 381, 3) := by decide +kernel
theorem dX9_findEvents_148 : decode cX9_findEvents 148 = .ok (.iinc 4 1, 3) := by decide +kernel
theorem dX9_findEvents_151 : decode cX9_findEvents 151 = .ok (.goto (-133), 3) := by decide +kernel
theorem dX9_findEvents_154 : decode cX9_findEvents 154 = .ok (.iinc 3 1, 3) := by decide +kernel
theorem dX9_findEvents_157 : decode cX9_findEvents 157 = .ok (.goto (-150), 3) := by decide +kernel
theorem dX9_findEvents_160 : decode cX9_findEvents 160 = .ok (.aload_n 0, 1) := by decide +kernel
theorem dX9_findEvents_161 : decode cX9_findEvents 161 = .ok (.getfield 381, 3) := by decide +kernel
theorem dX9_findEvents_164 : decode cX9_findEvents 164 = .ok (.iconst 1, 1) := by decide +kernel
theorem dX9_findEvents_165 : decode cX9_findEvents 165 = .ok (.isub, 1) := by decide +kernel
theorem dX9_findEvents_166 : decode cX9_findEvents 166 = .ok (.istore_n 3, 1) := by decide +kernel
theorem dX9_findEvents_167 : decode cX9_findEvents 167 = .ok (.iload_n 3, 1) := by decide +kernel
theorem dX9_findEvents_168 : decode cX9_findEvents 168 = .ok (.ifCond .lt 88, 3) := by decide +kernel
theorem dX9_findEvents_171 : decode cX9_findEvents 171 = .ok (.aload_n 0, 1) := by decide +kernel
theorem dX9_findEvents_172 : decode cX9_findEvents 172 = .ok (.getfield 122, 3) := by decide +kernel
theorem dX9_findEvents_175 : decode cX9_findEvents 175 = .ok (.iload_n 3, 1) := by decide +kernel
theorem dX9_findEvents_176 : decode cX9_findEvents 176 = .ok (.iconst 1, 1) := by decide +kernel
theorem dX9_findEvents_177 : decode cX9_findEvents 177 = .ok (.iastore, 1) := by decide +kernel
theorem dX9_findEvents_178 : decode cX9_findEvents 178 = .ok (.iload_n 3, 1) := by decide +kernel
theorem dX9_findEvents_179 : decode cX9_findEvents 179 = .ok (.iconst 1, 1) := by decide +kernel
theorem dX9_findEvents_180 : decode cX9_findEvents 180 = .ok (.iadd, 1) := by decide +kernel
theorem dX9_findEvents_181 : decode cX9_findEvents 181 = .ok (.istore 4, 2) := by decide +kernel
theorem dX9_findEvents_183 : decode cX9_findEvents 183 = .ok (.iload 4, 2) := by decide +kernel
theorem dX9_findEvents_185 : decode cX9_findEvents 185 = .ok (.aload_n 0, 1) := by decide +kernel
theorem dX9_findEvents_186 : decode cX9_findEvents 186 = .ok (.getfield 381, 3) := by decide +kernel
theorem dX9_findEvents_189 : decode cX9_findEvents 189 = .ok (.if_icmp .ge 61, 3) := by decide +kernel
theorem dX9_findEvents_192 : decode cX9_findEvents 192 = .ok (.aload_n 0, 1) := by decide +kernel
theorem dX9_findEvents_193 : decode cX9_findEvents 193 = .ok (.getfield 122, 3) := by decide +kernel
theorem dX9_findEvents_196 : decode cX9_findEvents 196 = .ok (.iload_n 3, 1) := by decide +kernel
theorem dX9_findEvents_197 : decode cX9_findEvents 197 = .ok (.aload_n 0, 1) := by decide +kernel
theorem dX9_findEvents_198 : decode cX9_findEvents 198 = .ok (.iload_n 3, 1) := by decide +kernel
theorem dX9_findEvents_199 : decode cX9_findEvents 199 = .ok (.iload 4, 2) := by decide +kernel
theorem dX9_findEvents_201 : decode cX9_findEvents 201 = .ok (.invokevirtual 384, 3) := by decide +kernel
theorem dX9_findEvents_204 : decode cX9_findEvents 204 = .ok (.ifCond .eq 33, 3) := by decide +kernel
theorem dX9_findEvents_207 : decode cX9_findEvents 207 = .ok (.aload_n 0, 1) := by decide +kernel
theorem dX9_findEvents_208 : decode cX9_findEvents 208 = .ok (.getfield 122, 3) := by decide +kernel
theorem dX9_findEvents_211 : decode cX9_findEvents 211 = .ok (.iload 4, 2) := by decide +kernel
theorem dX9_findEvents_213 : decode cX9_findEvents 213 = .ok (.iaload, 1) := by decide +kernel
theorem dX9_findEvents_214 : decode cX9_findEvents 214 = .ok (.iconst 1, 1) := by decide +kernel
theorem dX9_findEvents_215 : decode cX9_findEvents 215 = .ok (.iadd, 1) := by decide +kernel
theorem dX9_findEvents_216 : decode cX9_findEvents 216 = .ok (.aload_n 0, 1) := by decide +kernel
theorem dX9_findEvents_217 : decode cX9_findEvents 217 = .ok (.getfield 122, 3) := by decide +kernel
theorem dX9_findEvents_220 : decode cX9_findEvents 220 = .ok (.iload_n 3, 1) := by decide +kernel
theorem dX9_findEvents_221 : decode cX9_findEvents 221 = .ok (.iaload, 1) := by decide +kernel
theorem dX9_findEvents_222 : decode cX9_findEvents 222 = .ok (.if_icmp .le 15, 3) := by decide +kernel
theorem dX9_findEvents_225 : decode cX9_findEvents 225 = .ok (.aload_n 0, 1) := by decide +kernel
theorem dX9_findEvents_226 : decode cX9_findEvents 226 = .ok (.getfield 122, 3) := by decide +kernel
theorem dX9_findEvents_229 : decode cX9_findEvents 229 = .ok (.iload 4, 2) := by decide +kernel
theorem dX9_findEvents_231 : decode cX9_findEvents 231 = .ok (.iaload, 1) := by decide +kernel
theorem dX9_findEvents_232 : decode cX9_findEvents 232 = .ok (.iconst 1, 1) := by decide +kernel
theorem dX9_findEvents_233 : decode cX9_findEvents 233 = .ok (.iadd, 1) := by decide +kernel
theorem dX9_findEvents_234 : decode cX9_findEvents 234 = .ok (.goto 9, 3) := by decide +kernel
theorem dX9_findEvents_237 : decode cX9_findEvents 237 = .ok (.aload_n 0, 1) := by decide +kernel
theorem dX9_findEvents_238 : decode cX9_findEvents 238 = .ok (.getfield 122, 3) := by decide +kernel
theorem dX9_findEvents_241 : decode cX9_findEvents 241 = .ok (.iload_n 3, 1) := by decide +kernel
theorem dX9_findEvents_242 : decode cX9_findEvents 242 = .ok (.iaload, 1) := by decide +kernel
theorem dX9_findEvents_243 : decode cX9_findEvents 243 = .ok (.iastore, 1) := by decide +kernel
theorem dX9_findEvents_244 : decode cX9_findEvents 244 = .ok (.iinc 4 1, 3) := by decide +kernel
theorem dX9_findEvents_247 : decode cX9_findEvents 247 = .ok (.goto (-64), 3) := by decide +kernel
theorem dX9_findEvents_250 : decode cX9_findEvents 250 = .ok (.iinc 3 (-1), 3) := by decide +kernel
theorem dX9_findEvents_253 : decode cX9_findEvents 253 = .ok (.goto (-86), 3) := by decide +kernel
theorem dX9_findEvents_256 : decode cX9_findEvents 256 = .ok (.return_, 1) := by decide +kernel
theorem dX9_canFollow_0 : decode cX9_canFollow 0 = .ok (.aload_n 0, 1) := by decide +kernel
theorem dX9_canFollow_1 : decode cX9_canFollow 1 = .ok (.getfield 119, 3) := by decide +kernel
theorem dX9_canFollow_4 : decode cX9_canFollow 4 = .ok (.iload_n 2, 1) := by decide +kernel
theorem dX9_canFollow_5 : decode cX9_canFollow 5 = .ok (.iaload, 1) := by decide +kernel
theorem dX9_canFollow_6 : decode cX9_canFollow 6 = .ok (.bipush 60, 2) := by decide +kernel
theorem dX9_canFollow_8 : decode cX9_canFollow 8 = .ok (.isub, 1) := by decide +kernel
theorem dX9_canFollow_9 : decode cX9_canFollow 9 = .ok (.aload_n 0, 1) := by decide +kernel
theorem dX9_canFollow_10 : decode cX9_canFollow 10 = .ok (.getfield 119, 3) := by decide +kernel
theorem dX9_canFollow_13 : decode cX9_canFollow 13 = .ok (.iload_n 1, 1) := by decide +kernel
theorem dX9_canFollow_14 : decode cX9_canFollow 14 = .ok (.iaload, 1) := by decide +kernel
theorem dX9_canFollow_15 : decode cX9_canFollow 15 = .ok (.bipush 60, 2) := by decide +kernel
theorem dX9_canFollow_17 : decode cX9_canFollow 17 = .ok (.iadd, 1) := by decide +kernel
theorem dX9_canFollow_18 : decode cX9_canFollow 18 = .ok (.isub, 1) := by decide +kernel
theorem dX9_canFollow_19 : decode cX9_canFollow 19 = .ok (.aload_n 0, 1) := by decide +kernel
theorem dX9_canFollow_20 : decode cX9_canFollow 20 = .ok (.aload_n 0, 1) := by decide +kernel
theorem dX9_canFollow_21 : decode cX9_canFollow 21 = .ok (.getfield 116, 3) := by decide +kernel
theorem dX9_canFollow_24 : decode cX9_canFollow 24 = .ok (.iload_n 1, 1) := by decide +kernel
theorem dX9_canFollow_25 : decode cX9_canFollow 25 = .ok (.iaload, 1) := by decide +kernel
theorem dX9_canFollow_26 : decode cX9_canFollow 26 = .ok (.aload_n 0, 1) := by decide +kernel
theorem dX9_canFollow_27 : decode cX9_canFollow 27 = .ok (.getfield 116, 3) := by decide +kernel
theorem dX9_canFollow_30 : decode cX9_canFollow 30 = .ok (.iload_n 2, 1) := by decide +kernel
theorem dX9_canFollow_31 : decode cX9_canFollow 31 = .ok (.iaload, 1) := by decide +kernel
theorem dX9_canFollow_32 : decode cX9_canFollow 32 = .ok (.invokevirtual 378, 3) := by decide +kernel
theorem dX9_canFollow_35 : decode cX9_canFollow 35 = .ok (.if_icmp .lt 7, 3) := by decide +kernel
theorem dX9_canFollow_38 : decode cX9_canFollow 38 = .ok (.iconst 1, 1) := by decide +kernel
theorem dX9_canFollow_39 : decode cX9_canFollow 39 = .ok (.goto 4, 3) := by decide +kernel
theorem dX9_canFollow_42 : decode cX9_canFollow 42 = .ok (.iconst 0, 1) := by decide +kernel
theorem dX9_canFollow_43 : decode cX9_canFollow 43 = .ok (.ireturn, 1) := by decide +kernel
theorem dX9_areDays_0 : decode cX9_areDays 0 = .ok (.aload_n 0, 1) := by decide +kernel
theorem dX9_areDays_1 : decode cX9_areDays 1 = .ok (.invokevirtual 236, 3) := by decide +kernel
theorem dX9_areDays_4 : decode cX9_areDays 4 = .ok (.ifCond .le 29, 3) := by decide +kernel
theorem dX9_areDays_7 : decode cX9_areDays 7 = .ok (.iload_n 1, 1) := by decide +kernel
theorem dX9_areDays_8 : decode cX9_areDays 8 = .ok (.iconst 0, 1) := by decide +kernel
theorem dX9_areDays_9 : decode cX9_areDays 9 = .ok (.sipush 3649, 3) := by decide +kernel
theorem dX9_areDays_12 : decode cX9_areDays 12 = .ok (.invokestatic 262, 3) := by decide +kernel
theorem dX9_areDays_15 : decode cX9_areDays 15 = .ok (.ifCond .eq 18, 3) := by decide +kernel
theorem dX9_areDays_18 : decode cX9_areDays 18 = .ok (.iload_n 2, 1) := by decide +kernel
theorem dX9_areDays_19 : decode cX9_areDays 19 = .ok (.iload_n 1, 1) := by decide +kernel
theorem dX9_areDays_20 : decode cX9_areDays 20 = .ok (.sipush 3649, 3) := by decide +kernel
theorem dX9_areDays_23 : decode cX9_areDays 23 = .ok (.invokestatic 262, 3) := by decide +kernel
theorem dX9_areDays_26 : decode cX9_areDays 26 = .ok (.ifCond .eq 7, 3) := by decide +kernel
theorem dX9_areDays_29 : decode cX9_areDays 29 = .ok (.iconst 1, 1) := by decide +kernel
theorem dX9_areDays_30 : decode cX9_areDays 30 = .ok (.goto 4, 3) := by decide +kernel
theorem dX9_areDays_33 : decode cX9_areDays 33 = .ok (.iconst 0, 1) := by decide +kernel
theorem dX9_areDays_34 : decode cX9_areDays 34 = .ok (.ireturn, 1) := by decide +kernel
theorem dX9_findMost_0 : decode cX9_findMost 0 = .ok (.aload_n 0, 1) := by decide +kernel
theorem dX9_findMost_1 : decode cX9_findMost 1 = .ok (.iload_n 1, 1) := by decide +kernel
theorem dX9_findMost_2 : decode cX9_findMost 2 = .ok (.iload_n 2, 1) := by decide +kernel
theorem dX9_findMost_3 : decode cX9_findMost 3 = .ok (.invokevirtual 387, 3) := by decide +kernel
theorem dX9_findMost_6 : decode cX9_findMost 6 = .ok (.iconst 0, 1) := by decide +kernel
theorem dX9_findMost_7 : decode cX9_findMost 7 = .ok (.istore_n 3, 1) := by decide +kernel
theorem dX9_findMost_8 : decode cX9_findMost 8 = .ok (.iconst 0, 1) := by decide +kernel
theorem dX9_findMost_9 : decode cX9_findMost 9 = .ok (.istore 4, 2) := by decide +kernel
theorem dX9_findMost_11 : decode cX9_findMost 11 = .ok (.iload 4, 2) := by decide +kernel
theorem dX9_findMost_13 : decode cX9_findMost 13 = .ok (.aload_n 0, 1) := by decide +kernel
theorem dX9_findMost_14 : decode cX9_findMost 14 = .ok (.getfield 381, 3) := by decide +kernel
theorem dX9_findMost_17 : decode cX9_findMost 17 = .ok (.if_icmp .ge 32, 3) := by decide +kernel
theorem dX9_findMost_20 : decode cX9_findMost 20 = .ok (.aload_n 0, 1) := by decide +kernel
theorem dX9_findMost_21 : decode cX9_findMost 21 = .ok (.getfield 122, 3) := by decide +kernel
theorem dX9_findMost_24 : decode cX9_findMost 24 = .ok (.iload 4, 2) := by decide +kernel
theorem dX9_findMost_26 : decode cX9_findMost 26 = .ok (.iaload, 1) := by decide +kernel
theorem dX9_findMost_27 : decode cX9_findMost 27 = .ok (.iload_n 3, 1) := by decide +kernel
theorem dX9_findMost_28 : decode cX9_findMost 28 = .ok (.if_icmp .le 13, 3) := by decide +kernel
theorem dX9_findMost_31 : decode cX9_findMost 31 = .ok (.aload_n 0, 1) := by decide +kernel
theorem dX9_findMost_32 : decode cX9_findMost 32 = .ok (.getfield 122, 3) := by decide +kernel
theorem dX9_findMost_35 : decode cX9_findMost 35 = .ok (.iload 4, 2) := by decide +kernel
theorem dX9_findMost_37 : decode cX9_findMost 37 = .ok (.iaload, 1) := by decide +kernel
theorem dX9_findMost_38 : decode cX9_findMost 38 = .ok (.goto 4, 3) := by decide +kernel
theorem dX9_findMost_41 : decode cX9_findMost 41 = .ok (.iload_n 3, 1) := by decide +kernel
theorem dX9_findMost_42 : decode cX9_findMost 42 = .ok (.istore_n 3, 1) := by decide +kernel
theorem dX9_findMost_43 : decode cX9_findMost 43 = .ok (.iinc 4 1, 3) := by decide +kernel
theorem dX9_findMost_46 : decode cX9_findMost 46 = .ok (.goto (-35), 3) := by decide +kernel
theorem dX9_findMost_49 : decode cX9_findMost 49 = .ok (.iload_n 3, 1) := by decide +kernel
theorem dX9_findMost_50 : decode cX9_findMost 50 = .ok (.ireturn, 1) := by decide +kernel
theorem dX9_most_0 : decode cX9_most 0 = .ok (.aload_n 0, 1) := by decide +kernel
theorem dX9_most_1 : decode cX9_most 1 = .ok (.iconst 0, 1) := by decide +kernel
theorem dX9_most_2 : decode cX9_most 2 = .ok (.putfield 1, 3) := by decide +kernel
theorem dX9_most_5 : decode cX9_most 5 = .ok (.aload_n 0, 1) := by decide +kernel
theorem dX9_most_6 : decode cX9_most 6 = .ok (.iload_n 1, 1) := by decide +kernel
theorem dX9_most_7 : decode cX9_most 7 = .ok (.iload_n 2, 1) := by decide +kernel
theorem dX9_most_8 : decode cX9_most 8 = .ok (.invokevirtual 390, 3) := by decide +kernel
theorem dX9_most_11 : decode cX9_most 11 = .ok (.ifCond .eq 12, 3) := by decide +kernel
theorem dX9_most_14 : decode cX9_most 14 = .ok (.aload_n 0, 1) := by decide +kernel
theorem dX9_most_15 : decode cX9_most 15 = .ok (.iload_n 1, 1) := by decide +kernel
theorem dX9_most_16 : decode cX9_most 16 = .ok (.iload_n 2, 1) := by decide +kernel
theorem dX9_most_17 : decode cX9_most 17 = .ok (.invokevirtual 393, 3) := by decide +kernel
theorem dX9_most_20 : decode cX9_most 20 = .ok (.goto 4, 3) := by decide +kernel
theorem dX9_most_23 : decode cX9_most 23 = .ok (.iconst (-1), 1) := by decide +kernel
theorem dX9_most_24 : decode cX9_most 24 = .ok (.ireturn, 1) := by decide +kernel
theorem dX9_goes_0 : decode cX9_goes 0 = .ok (.aload_n 0, 1) := by decide +kernel
theorem dX9_goes_1 : decode cX9_goes 1 = .ok (.iconst 0, 1) := by decide +kernel
theorem dX9_goes_2 : decode cX9_goes 2 = .ok (.putfield 1, 3) := by decide +kernel
theorem dX9_goes_5 : decode cX9_goes 5 = .ok (.aload_n 0, 1) := by decide +kernel
theorem dX9_goes_6 : decode cX9_goes 6 = .ok (.iload_n 1, 1) := by decide +kernel
theorem dX9_goes_7 : decode cX9_goes 7 = .ok (.iload_n 2, 1) := by decide +kernel
theorem dX9_goes_8 : decode cX9_goes 8 = .ok (.invokevirtual 390, 3) := by decide +kernel
theorem dX9_goes_11 : decode cX9_goes 11 = .ok (.ifCond .eq 13, 3) := by decide +kernel
theorem dX9_goes_14 : decode cX9_goes 14 = .ok (.iload 4, 2) := by decide +kernel
theorem dX9_goes_16 : decode cX9_goes 16 = .ok (.iconst 0, 1) := by decide +kernel
theorem dX9_goes_17 : decode cX9_goes 17 = .ok (.iconst 1, 1) := by decide +kernel
theorem dX9_goes_18 : decode cX9_goes 18 = .ok (.invokestatic 262, 3) := by decide +kernel
theorem dX9_goes_21 : decode cX9_goes 21 = .ok (.ifCond .ne 5, 3) := by decide +kernel
theorem dX9_goes_24 : decode cX9_goes 24 = .ok (.iconst (-1), 1) := by decide +kernel
theorem dX9_goes_25 : decode cX9_goes 25 = .ok (.ireturn, 1) := by decide +kernel
theorem dX9_goes_26 : decode cX9_goes 26 = .ok (.aload_n 0, 1) := by decide +kernel
theorem dX9_goes_27 : decode cX9_goes 27 = .ok (.iload_n 1, 1) := by decide +kernel
theorem dX9_goes_28 : decode cX9_goes 28 = .ok (.iload_n 2, 1) := by decide +kernel
theorem dX9_goes_29 : decode cX9_goes 29 = .ok (.invokevirtual 393, 3) := by decide +kernel
theorem dX9_goes_32 : decode cX9_goes 32 = .ok (.istore 5, 2) := by decide +kernel
theorem dX9_goes_34 : decode cX9_goes 34 = .ok (.iload_n 3, 1) := by decide +kernel
theorem dX9_goes_35 : decode cX9_goes 35 = .ok (.ifCond .lt 9, 3) := by decide +kernel
theorem dX9_goes_38 : decode cX9_goes 38 = .ok (.iload_n 3, 1) := by decide +kernel
theorem dX9_goes_39 : decode cX9_goes 39 = .ok (.iload 5, 2) := by decide +kernel
theorem dX9_goes_41 : decode cX9_goes 41 = .ok (.if_icmp .lt 5, 3) := by decide +kernel
theorem dX9_goes_44 : decode cX9_goes 44 = .ok (.iconst (-1), 1) := by decide +kernel
theorem dX9_goes_45 : decode cX9_goes 45 = .ok (.ireturn, 1) := by decide +kernel
theorem dX9_goes_46 : decode cX9_goes 46 = .ok (.iconst (-1), 1) := by decide +kernel
theorem dX9_goes_47 : decode cX9_goes 47 = .ok (.istore 6, 2) := by decide +kernel
theorem dX9_goes_49 : decode cX9_goes 49 = .ok (.iconst 0, 1) := by decide +kernel
theorem dX9_goes_50 : decode cX9_goes 50 = .ok (.istore 7, 2) := by decide +kernel
theorem dX9_goes_52 : decode cX9_goes 52 = .ok (.iload 7, 2) := by decide +kernel
theorem dX9_goes_54 : decode cX9_goes 54 = .ok (.iload_n 3, 1) := by decide +kernel
theorem dX9_goes_55 : decode cX9_goes 55 = .ok (.if_icmp .gt 56, 3) := by decide +kernel
theorem dX9_goes_58 : decode cX9_goes 58 = .ok (.iload 6, 2) := by decide +kernel
theorem dX9_goes_60 : decode cX9_goes 60 = .ok (.iconst 1, 1) := by decide +kernel
theorem dX9_goes_61 : decode cX9_goes 61 = .ok (.iadd, 1) := by decide +kernel
theorem dX9_goes_62 : decode cX9_goes 62 = .ok (.istore 8, 2) := by decide +kernel
theorem dX9_goes_64 : decode cX9_goes 64 = .ok (.aload_n 0, 1) := by decide +kernel
theorem dX9_goes_65 : decode cX9_goes 65 = .ok (.getfield 122, 3) := by decide +kernel
theorem dX9_goes_68 : decode cX9_goes 68 = .ok (.iload 8, 2) := by decide +kernel
theorem dX9_goes_70 : decode cX9_goes 70 = .ok (.iaload, 1) := by decide +kernel
theorem dX9_goes_71 : decode cX9_goes 71 = .ok (.iload 5, 2) := by decide +kernel
theorem dX9_goes_73 : decode cX9_goes 73 = .ok (.iload 7, 2) := by decide +kernel
theorem dX9_goes_75 : decode cX9_goes 75 = .ok (.isub, 1) := by decide +kernel
theorem dX9_goes_76 : decode cX9_goes 76 = .ok (.if_icmp .ne 19, 3) := by decide +kernel
theorem dX9_goes_79 : decode cX9_goes 79 = .ok (.iload 6, 2) := by decide +kernel
theorem dX9_goes_81 : decode cX9_goes 81 = .ok (.ifCond .lt 20, 3) := by decide +kernel
theorem dX9_goes_84 : decode cX9_goes 84 = .ok (.aload_n 0, 1) := by decide +kernel
theorem dX9_goes_85 : decode cX9_goes 85 = .ok (.iload 6, 2) := by decide +kernel
theorem dX9_goes_87 : decode cX9_goes 87 = .ok (.iload 8, 2) := by decide +kernel
theorem dX9_goes_89 : decode cX9_goes 89 = .ok (.invokevirtual 384, 3) := by decide +kernel
theorem dX9_goes_92 : decode cX9_goes 92 = .ok (.ifCond .ne 9, 3) := by decide +kernel
theorem dX9_goes_95 : decode cX9_goes 95 = .ok (.iinc 8 1, 3) := by decide +kernel
theorem dX9_goes_98 : decode cX9_goes 98 = .ok (.goto (-34), 3) := by decide +kernel
theorem dX9_goes_101 : decode cX9_goes 101 = .ok (.iload 8, 2) := by decide +kernel
theorem dX9_goes_103 : decode cX9_goes 103 = .ok (.istore 6, 2) := by decide +kernel
theorem dX9_goes_105 : decode cX9_goes 105 = .ok (.iinc 7 1, 3) := by decide +kernel
theorem dX9_goes_108 : decode cX9_goes 108 = .ok (.goto (-56), 3) := by decide +kernel
theorem dX9_goes_111 : decode cX9_goes 111 = .ok (.iload 4, 2) := by decide +kernel
theorem dX9_goes_113 : decode cX9_goes 113 = .ok (.ifCond .ne 13, 3) := by decide +kernel
theorem dX9_goes_116 : decode cX9_goes 116 = .ok (.aload_n 0, 1) := by decide +kernel
theorem dX9_goes_117 : decode cX9_goes 117 = .ok (.getfield 116, 3) := by decide +kernel
theorem dX9_goes_120 : decode cX9_goes 120 = .ok (.iload 6, 2) := by decide +kernel
theorem dX9_goes_122 : decode cX9_goes 122 = .ok (.iaload, 1) := by decide +kernel
theorem dX9_goes_123 : decode cX9_goes 123 = .ok (.goto 10, 3) := by decide +kernel
theorem dX9_goes_126 : decode cX9_goes 126 = .ok (.aload_n 0, 1) := by decide +kernel
theorem dX9_goes_127 : decode cX9_goes 127 = .ok (.getfield 119, 3) := by decide +kernel
theorem dX9_goes_130 : decode cX9_goes 130 = .ok (.iload 6, 2) := by decide +kernel
theorem dX9_goes_132 : decode cX9_goes 132 = .ok (.iaload, 1) := by decide +kernel
theorem dX9_goes_133 : decode cX9_goes 133 = .ok (.ireturn, 1) := by decide +kernel
theorem dX9_mark_0 : decode cX9_mark 0 = .ok (.aload_n 0, 1) := by decide +kernel
theorem dX9_mark_1 : decode cX9_mark 1 = .ok (.iconst 0, 1) := by decide +kernel
theorem dX9_mark_2 : decode cX9_mark 2 = .ok (.putfield 1, 3) := by decide +kernel
theorem dX9_mark_5 : decode cX9_mark 5 = .ok (.iload_n 1, 1) := by decide +kernel
theorem dX9_mark_6 : decode cX9_mark 6 = .ok (.iconst 0, 1) := by decide +kernel
theorem dX9_mark_7 : decode cX9_mark 7 = .ok (.iconst 3, 1) := by decide +kernel
theorem dX9_mark_8 : decode cX9_mark 8 = .ok (.invokestatic 262, 3) := by decide +kernel
theorem dX9_mark_11 : decode cX9_mark 11 = .ok (.ifCond .eq 16, 3) := by decide +kernel
theorem dX9_mark_14 : decode cX9_mark 14 = .ok (.iload_n 2, 1) := by decide +kernel
theorem dX9_mark_15 : decode cX9_mark 15 = .ok (.ifCond .eq 14, 3) := by decide +kernel
theorem dX9_mark_18 : decode cX9_mark 18 = .ok (.aload_n 0, 1) := by decide +kernel
theorem dX9_mark_19 : decode cX9_mark 19 = .ok (.getfield 125, 3) := by decide +kernel
theorem dX9_mark_22 : decode cX9_mark 22 = .ok (.iload_n 1, 1) := by decide +kernel
theorem dX9_mark_23 : decode cX9_mark 23 = .ok (.baload, 1) := by decide +kernel
theorem dX9_mark_24 : decode cX9_mark 24 = .ok (.ifCond .ne 5, 3) := by decide +kernel
theorem dX9_mark_27 : decode cX9_mark 27 = .ok (.iconst 0, 1) := by decide +kernel
theorem dX9_mark_28 : decode cX9_mark 28 = .ok (.ireturn, 1) := by decide +kernel
theorem dX9_mark_29 : decode cX9_mark 29 = .ok (.iload_n 2, 1) := by decide +kernel
theorem dX9_mark_30 : decode cX9_mark 30 = .ok (.ifCond .ne 10, 3) := by decide +kernel
theorem dX9_mark_33 : decode cX9_mark 33 = .ok (.aload_n 0, 1) := by decide +kernel
theorem dX9_mark_34 : decode cX9_mark 34 = .ok (.getfield 125, 3) := by decide +kernel
theorem dX9_mark_37 : decode cX9_mark 37 = .ok (.iload_n 1, 1) := by decide +kernel
theorem dX9_mark_38 : decode cX9_mark 38 = .ok (.iconst 1, 1) := by decide +kernel
theorem dX9_mark_39 : decode cX9_mark 39 = .ok (.bastore, 1) := by decide +kernel
theorem dX9_mark_40 : decode cX9_mark 40 = .ok (.aload_n 0, 1) := by decide +kernel
theorem dX9_mark_41 : decode cX9_mark 41 = .ok (.iload_n 2, 1) := by decide +kernel
theorem dX9_mark_42 : decode cX9_mark 42 = .ok (.ifCond .eq 9, 3) := by decide +kernel
theorem dX9_mark_45 : decode cX9_mark 45 = .ok (.iconst 2, 1) := by decide +kernel
theorem dX9_mark_46 : decode cX9_mark 46 = .ok (.iload_n 1, 1) := by decide +kernel
theorem dX9_mark_47 : decode cX9_mark 47 = .ok (.iadd, 1) := by decide +kernel
theorem dX9_mark_48 : decode cX9_mark 48 = .ok (.goto 4, 3) := by decide +kernel
theorem dX9_mark_51 : decode cX9_mark 51 = .ok (.iconst 0, 1) := by decide +kernel
theorem dX9_mark_52 : decode cX9_mark 52 = .ok (.iload_n 2, 1) := by decide +kernel
theorem dX9_mark_53 : decode cX9_mark 53 = .ok (.ifCond .eq 7, 3) := by decide +kernel
theorem dX9_mark_56 : decode cX9_mark 56 = .ok (.iconst 0, 1) := by decide +kernel
theorem dX9_mark_57 : decode cX9_mark 57 = .ok (.goto 6, 3) := by decide +kernel
theorem dX9_mark_60 : decode cX9_mark 60 = .ok (.iconst 2, 1) := by decide +kernel
theorem dX9_mark_61 : decode cX9_mark 61 = .ok (.iload_n 1, 1) := by decide +kernel
theorem dX9_mark_62 : decode cX9_mark 62 = .ok (.iadd, 1) := by decide +kernel
theorem dX9_mark_63 : decode cX9_mark 63 = .ok (.invokevirtual 189, 3) := by decide +kernel
theorem dX9_mark_66 : decode cX9_mark 66 = .ok (.iconst 1, 1) := by decide +kernel
theorem dX9_mark_67 : decode cX9_mark 67 = .ok (.ireturn, 1) := by decide +kernel
theorem dX9_count_0 : decode cX9_count 0 = .ok (.aload_n 0, 1) := by decide +kernel
theorem dX9_count_1 : decode cX9_count 1 = .ok (.iconst 0, 1) := by decide +kernel
theorem dX9_count_2 : decode cX9_count 2 = .ok (.putfield 1, 3) := by decide +kernel
theorem dX9_count_5 : decode cX9_count 5 = .ok (.iconst 0, 1) := by decide +kernel
theorem dX9_count_6 : decode cX9_count 6 = .ok (.istore_n 2, 1) := by decide +kernel
theorem dX9_count_7 : decode cX9_count 7 = .ok (.iload_n 1, 1) := by decide +kernel
theorem dX9_count_8 : decode cX9_count 8 = .ok (.tableswitch 133 0 6 #[44, 49, 54, 59, 64, 73, 128], 44) := by decide +kernel
theorem dX9_count_52 : decode cX9_count 52 = .ok (.aload_n 0, 1) := by decide +kernel
theorem dX9_count_53 : decode cX9_count 53 = .ok (.invokevirtual 236, 3) := by decide +kernel
theorem dX9_count_56 : decode cX9_count 56 = .ok (.ireturn, 1) := by decide +kernel
theorem dX9_count_57 : decode cX9_count 57 = .ok (.aload_n 0, 1) := by decide +kernel
theorem dX9_count_58 : decode cX9_count 58 = .ok (.invokevirtual 317, 3) := by decide +kernel
theorem dX9_count_61 : decode cX9_count 61 = .ok (.ireturn, 1) := by decide +kernel
theorem dX9_count_62 : decode cX9_count 62 = .ok (.aload_n 0, 1) := by decide +kernel
theorem dX9_count_63 : decode cX9_count 63 = .ok (.invokevirtual 348, 3) := by decide +kernel
theorem dX9_count_66 : decode cX9_count 66 = .ok (.ireturn, 1) := by decide +kernel
theorem dX9_count_67 : decode cX9_count 67 = .ok (.aload_n 0, 1) := by decide +kernel
theorem dX9_count_68 : decode cX9_count 68 = .ok (.invokevirtual 284, 3) := by decide +kernel
theorem dX9_count_71 : decode cX9_count 71 = .ok (.ireturn, 1) := by decide +kernel
theorem dX9_count_72 : decode cX9_count 72 = .ok (.aload_n 0, 1) := by decide +kernel
theorem dX9_count_73 : decode cX9_count 73 = .ok (.getfield 73, 3) := by decide +kernel
theorem dX9_count_76 : decode cX9_count 76 = .ok (.sipush 401, 3) := by decide +kernel
theorem dX9_count_79 : decode cX9_count 79 = .ok (.iaload, 1) := by decide +kernel
theorem dX9_count_80 : decode cX9_count 80 = .ok (.ireturn, 1) := by decide +kernel
theorem dX9_count_81 : decode cX9_count 81 = .ok (.iconst 0, 1) := by decide +kernel
theorem dX9_count_82 : decode cX9_count 82 = .ok (.istore_n 3, 1) := by decide +kernel
theorem dX9_count_83 : decode cX9_count 83 = .ok (.iload_n 3, 1) := by decide +kernel
theorem dX9_count_84 : decode cX9_count 84 = .ok (.iconst 3, 1) := by decide +kernel
theorem dX9_count_85 : decode cX9_count 85 = .ok (.if_icmp .ge 49, 3) := by decide +kernel
theorem dX9_count_88 : decode cX9_count 88 = .ok (.iconst 0, 1) := by decide +kernel
theorem dX9_count_89 : decode cX9_count 89 = .ok (.istore 4, 2) := by decide +kernel
theorem dX9_count_91 : decode cX9_count 91 = .ok (.iload 4, 2) := by decide +kernel
theorem dX9_count_93 : decode cX9_count 93 = .ok (.iload_n 3, 1) := by decide +kernel
theorem dX9_count_94 : decode cX9_count 94 = .ok (.if_icmp .ge 34, 3) := by decide +kernel
theorem dX9_count_97 : decode cX9_count 97 = .ok (.iload_n 2, 1) := by decide +kernel
theorem dX9_count_98 : decode cX9_count 98 = .ok (.aload_n 0, 1) := by decide +kernel
theorem dX9_count_99 : decode cX9_count 99 = .ok (.getfield 73, 3) := by decide +kernel
theorem dX9_count_102 : decode cX9_count 102 = .ok (.bipush 76, 2) := by decide +kernel
theorem dX9_count_104 : decode cX9_count 104 = .ok (.iconst 3, 1) := by decide +kernel
theorem dX9_count_105 : decode cX9_count 105 = .ok (.iload_n 3, 1) := by decide +kernel
theorem dX9_count_106 : decode cX9_count 106 = .ok (.imul, 1) := by decide +kernel
theorem dX9_count_107 : decode cX9_count 107 = .ok (.iadd, 1) := by decide +kernel
theorem dX9_count_108 : decode cX9_count 108 = .ok (.iload 4, 2) := by decide +kernel
theorem dX9_count_110 : decode cX9_count 110 = .ok (.iadd, 1) := by decide +kernel
theorem dX9_count_111 : decode cX9_count 111 = .ok (.iaload, 1) := by decide +kernel
theorem dX9_count_112 : decode cX9_count 112 = .ok (.ifCond .le 7, 3) := by decide +kernel
theorem dX9_count_115 : decode cX9_count 115 = .ok (.iconst 1, 1) := by decide +kernel
theorem dX9_count_116 : decode cX9_count 116 = .ok (.goto 4, 3) := by decide +kernel
theorem dX9_count_119 : decode cX9_count 119 = .ok (.iconst 0, 1) := by decide +kernel
theorem dX9_count_120 : decode cX9_count 120 = .ok (.iadd, 1) := by decide +kernel
theorem dX9_count_121 : decode cX9_count 121 = .ok (.istore_n 2, 1) := by decide +kernel
theorem dX9_count_122 : decode cX9_count 122 = .ok (.iinc 4 1, 3) := by decide +kernel
theorem dX9_count_125 : decode cX9_count 125 = .ok (.goto (-34), 3) := by decide +kernel
theorem dX9_count_128 : decode cX9_count 128 = .ok (.iinc 3 1, 3) := by decide +kernel
theorem dX9_count_131 : decode cX9_count 131 = .ok (.goto (-48), 3) := by decide +kernel
theorem dX9_count_134 : decode cX9_count 134 = .ok (.iload_n 2, 1) := by decide +kernel
theorem dX9_count_135 : decode cX9_count 135 = .ok (.ireturn, 1) := by decide +kernel
theorem dX9_count_136 : decode cX9_count 136 = .ok (.aload_n 0, 1) := by decide +kernel
theorem dX9_count_137 : decode cX9_count 137 = .ok (.getfield 11, 3) := by decide +kernel
theorem dX9_count_140 : decode cX9_count 140 = .ok (.ireturn, 1) := by decide +kernel
theorem dX9_count_141 : decode cX9_count 141 = .ok (.iconst (-1), 1) := by decide +kernel
theorem dX9_count_142 : decode cX9_count 142 = .ok (.ireturn, 1) := by decide +kernel
