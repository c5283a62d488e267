theorem dX0_init_0 : decode cX0_init 0 = .ok (.aload_n 0, 1) := by decide +kernel
theorem dX0_init_1 : decode cX0_init 1 = .ok (.invokespecial 3, 3) := by decide +kernel
theorem dX0_init_4 : decode cX0_init 4 = .ok (.aload_n 0, 1) := by decide +kernel
theorem dX0_init_5 : decode cX0_init 5 = .ok (.iconst 3, 1) := by decide +kernel
theorem dX0_init_6 : decode cX0_init 6 = .ok (.newarray .int, 2) := by decide +kernel
theorem dX0_init_8 : decode cX0_init 8 = .ok (.putfield 9, 3) := by decide +kernel
theorem dX0_init_11 : decode cX0_init 11 = .ok (.aload_n 0, 1) := by decide +kernel
theorem dX0_init_12 : decode cX0_init 12 = .ok (.iconst 3, 1) := by decide +kernel
theorem dX0_init_13 : decode cX0_init 13 = .ok (.newarray .int, 2) := by decide +kernel
theorem dX0_init_15 : decode cX0_init 15 = .ok (.putfield 15, 3) := by decide +kernel
theorem dX0_init_18 : decode cX0_init 18 = .ok (.aload_n 0, 1) := by decide +kernel
theorem dX0_init_19 : decode cX0_init 19 = .ok (.sipush 195, 3) := by decide +kernel
theorem dX0_init_22 : decode cX0_init 22 = .ok (.newarray .int, 2) := by decide +kernel
theorem dX0_init_24 : decode cX0_init 24 = .ok (.putfield 18, 3) := by decide +kernel
theorem dX0_init_27 : decode cX0_init 27 = .ok (.return_, 1) := by decide +kernel
theorem dX0_search_0 : decode cX0_search 0 = .ok (.aload_n 0, 1) := by decide +kernel
theorem dX0_search_1 : decode cX0_search 1 = .ok (.aload_n 1, 1) := by decide +kernel
theorem dX0_search_2 : decode cX0_search 2 = .ok (.getfield 21, 3) := by decide +kernel
theorem dX0_search_5 : decode cX0_search 5 = .ok (.iconst 1, 1) := by decide +kernel
theorem dX0_search_6 : decode cX0_search 6 = .ok (.iadd, 1) := by decide +kernel
theorem dX0_search_7 : decode cX0_search 7 = .ok (.putfield 27, 3) := by decide +kernel
theorem dX0_search_10 : decode cX0_search 10 = .ok (.aload_n 0, 1) := by decide +kernel
theorem dX0_search_11 : decode cX0_search 11 = .ok (.aload_n 0, 1) := by decide +kernel
theorem dX0_search_12 : decode cX0_search 12 = .ok (.getfield 27, 3) := by decide +kernel
theorem dX0_search_15 : decode cX0_search 15 = .ok (.i2l, 1) := by decide +kernel
theorem dX0_search_16 : decode cX0_search 16 = .ok (.aload_n 1, 1) := by decide +kernel
theorem dX0_search_17 : decode cX0_search 17 = .ok (.getfield 30, 3) := by decide +kernel
theorem dX0_search_20 : decode cX0_search 20 = .ok (.invokestatic 33, 3) := by decide +kernel
theorem dX0_search_23 : decode cX0_search 23 = .ok (.l2i, 1) := by decide +kernel
theorem dX0_search_24 : decode cX0_search 24 = .ok (.putfield 37, 3) := by decide +kernel
theorem dX0_search_27 : decode cX0_search 27 = .ok (.aload_n 0, 1) := by decide +kernel
theorem dX0_search_28 : decode cX0_search 28 = .ok (.ldc2_w 42, 3) := by decide +kernel
theorem dX0_search_31 : decode cX0_search 31 = .ok (.putfield 44, 3) := by decide +kernel
theorem dX0_search_34 : decode cX0_search 34 = .ok (.aload_n 0, 1) := by decide +kernel
theorem dX0_search_35 : decode cX0_search 35 = .ok (.getfield 37, 3) := by decide +kernel
theorem dX0_search_38 : decode cX0_search 38 = .ok (.aload_n 2, 1) := by decide +kernel
theorem dX0_search_39 : decode cX0_search 39 = .ok (.arraylength, 1) := by decide +kernel
theorem dX0_search_40 : decode cX0_search 40 = .ok (.if_icmp .le 4, 3) := by decide +kernel
theorem dX0_search_43 : decode cX0_search 43 = .ok (.return_, 1) := by decide +kernel
theorem dX0_search_44 : decode cX0_search 44 = .ok (.aload_n 0, 1) := by decide +kernel
theorem dX0_search_45 : decode cX0_search 45 = .ok (.aload_n 1, 1) := by decide +kernel
theorem dX0_search_46 : decode cX0_search 46 = .ok (.invokevirtual 48, 3) := by decide +kernel
theorem dX0_search_49 : decode cX0_search 49 = .ok (.aload_n 0, 1) := by decide +kernel
theorem dX0_search_50 : decode cX0_search 50 = .ok (.aload_n 1, 1) := by decide +kernel
theorem dX0_search_51 : decode cX0_search 51 = .ok (.aload_n 2, 1) := by decide +kernel
theorem dX0_search_52 : decode cX0_search 52 = .ok (.invokevirtual 52, 3) := by decide +kernel
theorem dX0_search_55 : decode cX0_search 55 = .ok (.aload_n 1, 1) := by decide +kernel
theorem dX0_search_56 : decode cX0_search 56 = .ok (.getfield 21, 3) := by decide +kernel
theorem dX0_search_59 : decode cX0_search 59 = .ok (.i2l, 1) := by decide +kernel
theorem dX0_search_60 : decode cX0_search 60 = .ok (.aload_n 1, 1) := by decide +kernel
theorem dX0_search_61 : decode cX0_search 61 = .ok (.getfield 30, 3) := by decide +kernel
theorem dX0_search_64 : decode cX0_search 64 = .ok (.iconst 1, 1) := by decide +kernel
theorem dX0_search_65 : decode cX0_search 65 = .ok (.isub, 1) := by decide +kernel
theorem dX0_search_66 : decode cX0_search 66 = .ok (.invokestatic 33, 3) := by decide +kernel
theorem dX0_search_69 : decode cX0_search 69 = .ok (.lstore_n 3, 1) := by decide +kernel
theorem dX0_search_70 : decode cX0_search 70 = .ok (.aload_n 0, 1) := by decide +kernel
theorem dX0_search_71 : decode cX0_search 71 = .ok (.aload_n 1, 1) := by decide +kernel
theorem dX0_search_72 : decode cX0_search 72 = .ok (.invokevirtual 56, 3) := by decide +kernel
theorem dX0_search_75 : decode cX0_search 75 = .ok (.istore 5, 2) := by decide +kernel
theorem dX0_search_77 : decode cX0_search 77 = .ok (.iconst 0, 1) := by decide +kernel
theorem dX0_search_78 : decode cX0_search 78 = .ok (.istore 6, 2) := by decide +kernel
theorem dX0_search_80 : decode cX0_search 80 = .ok (.iload 6, 2) := by decide +kernel
theorem dX0_search_82 : decode cX0_search 82 = .ok (.aload_n 0, 1) := by decide +kernel
theorem dX0_search_83 : decode cX0_search 83 = .ok (.getfield 37, 3) := by decide +kernel
theorem dX0_search_86 : decode cX0_search 86 = .ok (.if_icmp .ge 88, 3) := by decide +kernel
theorem dX0_search_89 : decode cX0_search 89 = .ok (.aload_n 0, 1) := by decide +kernel
theorem dX0_search_90 : decode cX0_search 90 = .ok (.aload_n 1, 1) := by decide +kernel
theorem dX0_search_91 : decode cX0_search 91 = .ok (.iload 6, 2) := by decide +kernel
theorem dX0_search_93 : decode cX0_search 93 = .ok (.invokevirtual 60, 3) := by decide +kernel
theorem dX0_search_96 : decode cX0_search 96 = .ok (.aload_n 0, 1) := by decide +kernel
theorem dX0_search_97 : decode cX0_search 97 = .ok (.aload_n 1, 1) := by decide +kernel
theorem dX0_search_98 : decode cX0_search 98 = .ok (.iconst 1, 1) := by decide +kernel
theorem dX0_search_99 : decode cX0_search 99 = .ok (.invokevirtual 64, 3) := by decide +kernel
theorem dX0_search_102 : decode cX0_search 102 = .ok (.ifCond .eq 66, 3) := by decide +kernel
theorem dX0_search_105 : decode cX0_search 105 = .ok (.aload_n 0, 1) := by decide +kernel
theorem dX0_search_106 : decode cX0_search 106 = .ok (.aload_n 1, 1) := by decide +kernel
theorem dX0_search_107 : decode cX0_search 107 = .ok (.invokevirtual 68, 3) := by decide +kernel
theorem dX0_search_110 : decode cX0_search 110 = .ok (.lstore 7, 2) := by decide +kernel
theorem dX0_search_112 : decode cX0_search 112 = .ok (.aload_n 0, 1) := by decide +kernel
theorem dX0_search_113 : decode cX0_search 113 = .ok (.aload_n 1, 1) := by decide +kernel
theorem dX0_search_114 : decode cX0_search 114 = .ok (.lload 7, 2) := by decide +kernel
theorem dX0_search_116 : decode cX0_search 116 = .ok (.lload_n 3, 1) := by decide +kernel
theorem dX0_search_117 : decode cX0_search 117 = .ok (.aload_n 2, 1) := by decide +kernel
theorem dX0_search_118 : decode cX0_search 118 = .ok (.iload 6, 2) := by decide +kernel
theorem dX0_search_120 : decode cX0_search 120 = .ok (.iaload, 1) := by decide +kernel
theorem dX0_search_121 : decode cX0_search 121 = .ok (.i2l, 1) := by decide +kernel
theorem dX0_search_122 : decode cX0_search 122 = .ok (.lmul, 1) := by decide +kernel
theorem dX0_search_123 : decode cX0_search 123 = .ok (.lsub, 1) := by decide +kernel
theorem dX0_search_124 : decode cX0_search 124 = .ok (.iconst 0, 1) := by decide +kernel
theorem dX0_search_125 : decode cX0_search 125 = .ok (.invokevirtual 72, 3) := by decide +kernel
theorem dX0_search_128 : decode cX0_search 128 = .ok (.aload_n 0, 1) := by decide +kernel
theorem dX0_search_129 : decode cX0_search 129 = .ok (.aload_n 1, 1) := by decide +kernel
theorem dX0_search_130 : decode cX0_search 130 = .ok (.iconst 0, 1) := by decide +kernel
theorem dX0_search_131 : decode cX0_search 131 = .ok (.invokevirtual 64, 3) := by decide +kernel
theorem dX0_search_134 : decode cX0_search 134 = .ok (.ifCond .eq 34, 3) := by decide +kernel
theorem dX0_search_137 : decode cX0_search 137 = .ok (.iload 6, 2) := by decide +kernel
theorem dX0_search_139 : decode cX0_search 139 = .ok (.iload 5, 2) := by decide +kernel
theorem dX0_search_141 : decode cX0_search 141 = .ok (.iadd, 1) := by decide +kernel
theorem dX0_search_142 : decode cX0_search 142 = .ok (.aload_n 0, 1) := by decide +kernel
theorem dX0_search_143 : decode cX0_search 143 = .ok (.getfield 37, 3) := by decide +kernel
theorem dX0_search_146 : decode cX0_search 146 = .ok (.if_icmp .ge 22, 3) := by decide +kernel
theorem dX0_search_149 : decode cX0_search 149 = .ok (.aload_n 0, 1) := by decide +kernel
theorem dX0_search_150 : decode cX0_search 150 = .ok (.aload_n 1, 1) := by decide +kernel
theorem dX0_search_151 : decode cX0_search 151 = .ok (.lload_n 3, 1) := by decide +kernel
theorem dX0_search_152 : decode cX0_search 152 = .ok (.aload_n 2, 1) := by decide +kernel
theorem dX0_search_153 : decode cX0_search 153 = .ok (.iload 6, 2) := by decide +kernel
theorem dX0_search_155 : decode cX0_search 155 = .ok (.iload 5, 2) := by decide +kernel
theorem dX0_search_157 : decode cX0_search 157 = .ok (.iadd, 1) := by decide +kernel
theorem dX0_search_158 : decode cX0_search 158 = .ok (.iaload, 1) := by decide +kernel
theorem dX0_search_159 : decode cX0_search 159 = .ok (.i2l, 1) := by decide +kernel
theorem dX0_search_160 : decode cX0_search 160 = .ok (.lmul, 1) := by decide +kernel
theorem dX0_search_161 : decode cX0_search 161 = .ok (.lload 7, 2) := by decide +kernel
theorem dX0_search_163 : decode cX0_search 163 = .ok (.lsub, 1) := by decide +kernel
theorem dX0_search_164 : decode cX0_search 164 = .ok (.iconst 1, 1) := by decide +kernel
theorem dX0_search_165 : decode cX0_search 165 = .ok (.invokevirtual 72, 3) := by decide +kernel
theorem dX0_search_168 : decode cX0_search 168 = .ok (.iinc 6 1, 3) := by decide +kernel
theorem dX0_search_171 : decode cX0_search 171 = .ok (.goto (-91), 3) := by decide +kernel
theorem dX0_search_174 : decode cX0_search 174 = .ok (.return_, 1) := by decide +kernel
theorem dX0_consider_0 : decode cX0_consider 0 = .ok (.lload_n 2, 1) := by decide +kernel
theorem dX0_consider_1 : decode cX0_consider 1 = .ok (.aload_n 0, 1) := by decide +kernel
theorem dX0_consider_2 : decode cX0_consider 2 = .ok (.getfield 44, 3) := by decide +kernel
theorem dX0_consider_5 : decode cX0_consider 5 = .ok (.lcmp, 1) := by decide +kernel
theorem dX0_consider_6 : decode cX0_consider 6 = .ok (.ifCond .le 31, 3) := by decide +kernel
theorem dX0_consider_9 : decode cX0_consider 9 = .ok (.aload_n 0, 1) := by decide +kernel
theorem dX0_consider_10 : decode cX0_consider 10 = .ok (.lload_n 2, 1) := by decide +kernel
theorem dX0_consider_11 : decode cX0_consider 11 = .ok (.putfield 44, 3) := by decide +kernel
theorem dX0_consider_14 : decode cX0_consider 14 = .ok (.aload_n 0, 1) := by decide +kernel
theorem dX0_consider_15 : decode cX0_consider 15 = .ok (.iload 4, 2) := by decide +kernel
theorem dX0_consider_17 : decode cX0_consider 17 = .ok (.putfield 76, 3) := by decide +kernel
theorem dX0_consider_20 : decode cX0_consider 20 = .ok (.aload_n 0, 1) := by decide +kernel
theorem dX0_consider_21 : decode cX0_consider 21 = .ok (.getfield 15, 3) := by decide +kernel
theorem dX0_consider_24 : decode cX0_consider 24 = .ok (.iconst 0, 1) := by decide +kernel
theorem dX0_consider_25 : decode cX0_consider 25 = .ok (.aload_n 0, 1) := by decide +kernel
theorem dX0_consider_26 : decode cX0_consider 26 = .ok (.getfield 9, 3) := by decide +kernel
theorem dX0_consider_29 : decode cX0_consider 29 = .ok (.iconst 0, 1) := by decide +kernel
theorem dX0_consider_30 : decode cX0_consider 30 = .ok (.aload_n 1, 1) := by decide +kernel
theorem dX0_consider_31 : decode cX0_consider 31 = .ok (.getfield 30, 3) := by decide +kernel
theorem dX0_consider_34 : decode cX0_consider 34 = .ok (.invokestatic 80, 3) := by decide +kernel
theorem dX0_consider_37 : decode cX0_consider 37 = .ok (.return_, 1) := by decide +kernel
theorem dX0_noteParts_0 : decode cX0_noteParts 0 = .ok (.aload_n 0, 1) := by decide +kernel
theorem dX0_noteParts_1 : decode cX0_noteParts 1 = .ok (.getfield 18, 3) := by decide +kernel
theorem dX0_noteParts_4 : decode cX0_noteParts 4 = .ok (.iconst 0, 1) := by decide +kernel
theorem dX0_noteParts_5 : decode cX0_noteParts 5 = .ok (.invokestatic 86, 3) := by decide +kernel
theorem dX0_noteParts_8 : decode cX0_noteParts 8 = .ok (.iconst 0, 1) := by decide +kernel
theorem dX0_noteParts_9 : decode cX0_noteParts 9 = .ok (.istore_n 2, 1) := by decide +kernel
theorem dX0_noteParts_10 : decode cX0_noteParts 10 = .ok (.iload_n 2, 1) := by decide +kernel
theorem dX0_noteParts_11 : decode cX0_noteParts 11 = .ok (.aload_n 1, 1) := by decide +kernel
theorem dX0_noteParts_12 : decode cX0_noteParts 12 = .ok (.getfield 30, 3) := by decide +kernel
theorem dX0_noteParts_15 : decode cX0_noteParts 15 = .ok (.if_icmp .ge 47, 3) := by decide +kernel
theorem dX0_noteParts_18 : decode cX0_noteParts 18 = .ok (.iconst 0, 1) := by decide +kernel
theorem dX0_noteParts_19 : decode cX0_noteParts 19 = .ok (.istore_n 3, 1) := by decide +kernel
theorem dX0_noteParts_20 : decode cX0_noteParts 20 = .ok (.iload_n 3, 1) := by decide +kernel
theorem dX0_noteParts_21 : decode cX0_noteParts 21 = .ok (.aload_n 1, 1) := by decide +kernel
theorem dX0_noteParts_22 : decode cX0_noteParts 22 = .ok (.getfield 21, 3) := by decide +kernel
theorem dX0_noteParts_25 : decode cX0_noteParts 25 = .ok (.if_icmp .ge 31, 3) := by decide +kernel
theorem dX0_noteParts_28 : decode cX0_noteParts 28 = .ok (.aload_n 0, 1) := by decide +kernel
theorem dX0_noteParts_29 : decode cX0_noteParts 29 = .ok (.getfield 18, 3) := by decide +kernel
theorem dX0_noteParts_32 : decode cX0_noteParts 32 = .ok (.iload_n 2, 1) := by decide +kernel
theorem dX0_noteParts_33 : decode cX0_noteParts 33 = .ok (.aload_n 0, 1) := by decide +kernel
theorem dX0_noteParts_34 : decode cX0_noteParts 34 = .ok (.getfield 27, 3) := by decide +kernel
theorem dX0_noteParts_37 : decode cX0_noteParts 37 = .ok (.imul, 1) := by decide +kernel
theorem dX0_noteParts_38 : decode cX0_noteParts 38 = .ok (.aload_n 1, 1) := by decide +kernel
theorem dX0_noteParts_39 : decode cX0_noteParts 39 = .ok (.iload_n 3, 1) := by decide +kernel
theorem dX0_noteParts_40 : decode cX0_noteParts 40 = .ok (.iload_n 2, 1) := by decide +kernel
theorem dX0_noteParts_41 : decode cX0_noteParts 41 = .ok (.invokevirtual 92, 3) := by decide +kernel
theorem dX0_noteParts_44 : decode cX0_noteParts 44 = .ok (.iadd, 1) := by decide +kernel
theorem dX0_noteParts_45 : decode cX0_noteParts 45 = .ok (.dup2, 1) := by decide +kernel
theorem dX0_noteParts_46 : decode cX0_noteParts 46 = .ok (.iaload, 1) := by decide +kernel
theorem dX0_noteParts_47 : decode cX0_noteParts 47 = .ok (.iconst 1, 1) := by decide +kernel
theorem dX0_noteParts_48 : decode cX0_noteParts 48 = .ok (.iadd, 1) := by decide +kernel
theorem dX0_noteParts_49 : decode cX0_noteParts 49 = .ok (.iastore, 1) := by decide +kernel
theorem dX0_noteParts_50 : decode cX0_noteParts 50 = .ok (.iinc 3 1, 3) := by decide +kernel
theorem dX0_noteParts_53 : decode cX0_noteParts 53 = .ok (.goto (-33), 3) := by decide +kernel
theorem dX0_noteParts_56 : decode cX0_noteParts 56 = .ok (.iinc 2 1, 3) := by decide +kernel
theorem dX0_noteParts_59 : decode cX0_noteParts 59 = .ok (.goto (-49), 3) := by decide +kernel
theorem dX0_noteParts_62 : decode cX0_noteParts 62 = .ok (.return_, 1) := by decide +kernel
theorem dX0_countBelow_0 : decode cX0_countBelow 0 = .ok (.aload_n 2, 1) := by decide +kernel
theorem dX0_countBelow_1 : decode cX0_countBelow 1 = .ok (.iconst 0, 1) := by decide +kernel
theorem dX0_countBelow_2 : decode cX0_countBelow 2 = .ok (.aload_n 0, 1) := by decide +kernel
theorem dX0_countBelow_3 : decode cX0_countBelow 3 = .ok (.getfield 37, 3) := by decide +kernel
theorem dX0_countBelow_6 : decode cX0_countBelow 6 = .ok (.iconst 0, 1) := by decide +kernel
theorem dX0_countBelow_7 : decode cX0_countBelow 7 = .ok (.invokestatic 96, 3) := by decide +kernel
theorem dX0_countBelow_10 : decode cX0_countBelow 10 = .ok (.iconst 0, 1) := by decide +kernel
theorem dX0_countBelow_11 : decode cX0_countBelow 11 = .ok (.istore_n 3, 1) := by decide +kernel
theorem dX0_countBelow_12 : decode cX0_countBelow 12 = .ok (.iload_n 3, 1) := by decide +kernel
theorem dX0_countBelow_13 : decode cX0_countBelow 13 = .ok (.aload_n 1, 1) := by decide +kernel
theorem dX0_countBelow_14 : decode cX0_countBelow 14 = .ok (.getfield 21, 3) := by decide +kernel
theorem dX0_countBelow_17 : decode cX0_countBelow 17 = .ok (.if_icmp .ge 57, 3) := by decide +kernel
theorem dX0_countBelow_20 : decode cX0_countBelow 20 = .ok (.iconst 0, 1) := by decide +kernel
theorem dX0_countBelow_21 : decode cX0_countBelow 21 = .ok (.istore 4, 2) := by decide +kernel
theorem dX0_countBelow_23 : decode cX0_countBelow 23 = .ok (.iconst 0, 1) := by decide +kernel
theorem dX0_countBelow_24 : decode cX0_countBelow 24 = .ok (.istore 5, 2) := by decide +kernel
theorem dX0_countBelow_26 : decode cX0_countBelow 26 = .ok (.iload 5, 2) := by decide +kernel
theorem dX0_countBelow_28 : decode cX0_countBelow 28 = .ok (.aload_n 1, 1) := by decide +kernel
theorem dX0_countBelow_29 : decode cX0_countBelow 29 = .ok (.getfield 30, 3) := by decide +kernel
theorem dX0_countBelow_32 : decode cX0_countBelow 32 = .ok (.if_icmp .ge 28, 3) := by decide +kernel
theorem dX0_countBelow_35 : decode cX0_countBelow 35 = .ok (.iload 4, 2) := by decide +kernel
theorem dX0_countBelow_37 : decode cX0_countBelow 37 = .ok (.aload_n 0, 1) := by decide +kernel
theorem dX0_countBelow_38 : decode cX0_countBelow 38 = .ok (.getfield 27, 3) := by decide +kernel
theorem dX0_countBelow_41 : decode cX0_countBelow 41 = .ok (.imul, 1) := by decide +kernel
theorem dX0_countBelow_42 : decode cX0_countBelow 42 = .ok (.aload_n 1, 1) := by decide +kernel
theorem dX0_countBelow_43 : decode cX0_countBelow 43 = .ok (.iload_n 3, 1) := by decide +kernel
theorem dX0_countBelow_44 : decode cX0_countBelow 44 = .ok (.iload 5, 2) := by decide +kernel
theorem dX0_countBelow_46 : decode cX0_countBelow 46 = .ok (.invokevirtual 92, 3) := by decide +kernel
theorem dX0_countBelow_49 : decode cX0_countBelow 49 = .ok (.iadd, 1) := by decide +kernel
theorem dX0_countBelow_50 : decode cX0_countBelow 50 = .ok (.iconst 1, 1) := by decide +kernel
theorem dX0_countBelow_51 : decode cX0_countBelow 51 = .ok (.iadd, 1) := by decide +kernel
theorem dX0_countBelow_52 : decode cX0_countBelow 52 = .ok (.istore 4, 2) := by decide +kernel
theorem dX0_countBelow_54 : decode cX0_countBelow 54 = .ok (.iinc 5 1, 3) := by decide +kernel
theorem dX0_countBelow_57 : decode cX0_countBelow 57 = .ok (.goto (-31), 3) := by decide +kernel
theorem dX0_countBelow_60 : decode cX0_countBelow 60 = .ok (.aload_n 2, 1) := by decide +kernel
theorem dX0_countBelow_61 : decode cX0_countBelow 61 = .ok (.iload 4, 2) := by decide +kernel
theorem dX0_countBelow_63 : decode cX0_countBelow 63 = .ok (.dup2, 1) := by decide +kernel
theorem dX0_countBelow_64 : decode cX0_countBelow 64 = .ok (.iaload, 1) := by decide +kernel
theorem dX0_countBelow_65 : decode cX0_countBelow 65 = .ok (.iconst 1, 1) := by decide +kernel
theorem dX0_countBelow_66 : decode cX0_countBelow 66 = .ok (.iadd, 1) := by decide +kernel
theorem dX0_countBelow_67 : decode cX0_countBelow 67 = .ok (.iastore, 1) := by decide +kernel
theorem dX0_countBelow_68 : decode cX0_countBelow 68 = .ok (.iinc 3 1, 3) := by decide +kernel
theorem dX0_countBelow_71 : decode cX0_countBelow 71 = .ok (.goto (-59), 3) := by decide +kernel
theorem dX0_countBelow_74 : decode cX0_countBelow 74 = .ok (.iconst 1, 1) := by decide +kernel
theorem dX0_countBelow_75 : decode cX0_countBelow 75 = .ok (.istore_n 3, 1) := by decide +kernel
theorem dX0_countBelow_76 : decode cX0_countBelow 76 = .ok (.iconst 0, 1) := by decide +kernel
theorem dX0_countBelow_77 : decode cX0_countBelow 77 = .ok (.istore 4, 2) := by decide +kernel
theorem dX0_countBelow_79 : decode cX0_countBelow 79 = .ok (.iload 4, 2) := by decide +kernel
theorem dX0_countBelow_81 : decode cX0_countBelow 81 = .ok (.aload_n 1, 1) := by decide +kernel
theorem dX0_countBelow_82 : decode cX0_countBelow 82 = .ok (.getfield 30, 3) := by decide +kernel
theorem dX0_countBelow_85 : decode cX0_countBelow 85 = .ok (.if_icmp .ge 59, 3) := by decide +kernel
theorem dX0_countBelow_88 : decode cX0_countBelow 88 = .ok (.iload_n 3, 1) := by decide +kernel
theorem dX0_countBelow_89 : decode cX0_countBelow 89 = .ok (.istore 5, 2) := by decide +kernel
theorem dX0_countBelow_91 : decode cX0_countBelow 91 = .ok (.iload 5, 2) := by decide +kernel
theorem dX0_countBelow_93 : decode cX0_countBelow 93 = .ok (.aload_n 0, 1) := by decide +kernel
theorem dX0_countBelow_94 : decode cX0_countBelow 94 = .ok (.getfield 37, 3) := by decide +kernel
theorem dX0_countBelow_97 : decode cX0_countBelow 97 = .ok (.if_icmp .ge 34, 3) := by decide +kernel
theorem dX0_countBelow_100 : decode cX0_countBelow 100 = .ok (.iload 5, 2) := by decide +kernel
theorem dX0_countBelow_102 : decode cX0_countBelow 102 = .ok (.iload_n 3, 1) := by decide +kernel
theorem dX0_countBelow_103 : decode cX0_countBelow 103 = .ok (.idiv, 1) := by decide +kernel
theorem dX0_countBelow_104 : decode cX0_countBelow 104 = .ok (.aload_n 0, 1) := by decide +kernel
theorem dX0_countBelow_105 : decode cX0_countBelow 105 = .ok (.getfield 27, 3) := by decide +kernel
theorem dX0_countBelow_108 : decode cX0_countBelow 108 = .ok (.irem, 1) := by decide +kernel
theorem dX0_countBelow_109 : decode cX0_countBelow 109 = .ok (.ifCond .le 16, 3) := by decide +kernel
theorem dX0_countBelow_112 : decode cX0_countBelow 112 = .ok (.aload_n 2, 1) := by decide +kernel
theorem dX0_countBelow_113 : decode cX0_countBelow 113 = .ok (.iload 5, 2) := by decide +kernel
theorem dX0_countBelow_115 : decode cX0_countBelow 115 = .ok (.dup2, 1) := by decide +kernel
theorem dX0_countBelow_116 : decode cX0_countBelow 116 = .ok (.iaload, 1) := by decide +kernel
theorem dX0_countBelow_117 : decode cX0_countBelow 117 = .ok (.aload_n 2, 1) := by decide +kernel
theorem dX0_countBelow_118 : decode cX0_countBelow 118 = .ok (.iload 5, 2) := by decide +kernel
theorem dX0_countBelow_120 : decode cX0_countBelow 120 = .ok (.iload_n 3, 1) := by decide +kernel
theorem dX0_countBelow_121 : decode cX0_countBelow 121 = .ok (.isub, 1) := by decide +kernel
theorem dX0_countBelow_122 : decode cX0_countBelow 122 = .ok (.iaload, 1) := by decide +kernel
theorem dX0_countBelow_123 : decode cX0_countBelow 123 = .ok (.iadd, 1) := by decide +kernel
theorem dX0_countBelow_124 : decode cX0_countBelow 124 = .ok (.iastore, 1) := by decide +kernel
theorem dX0_countBelow_125 : decode cX0_countBelow 125 = .ok (.iinc 5 1, 3) := by decide +kernel
theorem dX0_countBelow_128 : decode cX0_countBelow 128 = .ok (.goto (-37), 3) := by decide +kernel
theorem dX0_countBelow_131 : decode cX0_countBelow 131 = .ok (.iload_n 3, 1) := by decide +kernel
theorem dX0_countBelow_132 : decode cX0_countBelow 132 = .ok (.aload_n 0, 1) := by decide +kernel
theorem dX0_countBelow_133 : decode cX0_countBelow 133 = .ok (.getfield 27, 3) := by decide +kernel
theorem dX0_countBelow_136 : decode cX0_countBelow 136 = .ok (.imul, 1) := by decide +kernel
theorem dX0_countBelow_137 : decode cX0_countBelow 137 = .ok (.istore_n 3, 1) := by decide +kernel
theorem dX0_countBelow_138 : decode cX0_countBelow 138 = .ok (.iinc 4 1, 3) := by decide +kernel
theorem dX0_countBelow_141 : decode cX0_countBelow 141 = .ok (.goto (-62), 3) := by decide +kernel
theorem dX0_countBelow_144 : decode cX0_countBelow 144 = .ok (.return_, 1) := by decide +kernel
theorem dX0_diagonalOf_0 : decode cX0_diagonalOf 0 = .ok (.iconst 0, 1) := by decide +kernel
theorem dX0_diagonalOf_1 : decode cX0_diagonalOf 1 = .ok (.istore_n 2, 1) := by decide +kernel
theorem dX0_diagonalOf_2 : decode cX0_diagonalOf 2 = .ok (.iconst 0, 1) := by decide +kernel
theorem dX0_diagonalOf_3 : decode cX0_diagonalOf 3 = .ok (.istore_n 3, 1) := by decide +kernel
theorem dX0_diagonalOf_4 : decode cX0_diagonalOf 4 = .ok (.iload_n 3, 1) := by decide +kernel
theorem dX0_diagonalOf_5 : decode cX0_diagonalOf 5 = .ok (.aload_n 1, 1) := by decide +kernel
theorem dX0_diagonalOf_6 : decode cX0_diagonalOf 6 = .ok (.getfield 30, 3) := by decide +kernel
theorem dX0_diagonalOf_9 : decode cX0_diagonalOf 9 = .ok (.if_icmp .ge 18, 3) := by decide +kernel
theorem dX0_diagonalOf_12 : decode cX0_diagonalOf 12 = .ok (.iload_n 2, 1) := by decide +kernel
theorem dX0_diagonalOf_13 : decode cX0_diagonalOf 13 = .ok (.aload_n 0, 1) := by decide +kernel
theorem dX0_diagonalOf_14 : decode cX0_diagonalOf 14 = .ok (.getfield 27, 3) := by decide +kernel
theorem dX0_diagonalOf_17 : decode cX0_diagonalOf 17 = .ok (.imul, 1) := by decide +kernel
theorem dX0_diagonalOf_18 : decode cX0_diagonalOf 18 = .ok (.iconst 1, 1) := by decide +kernel
theorem dX0_diagonalOf_19 : decode cX0_diagonalOf 19 = .ok (.iadd, 1) := by decide +kernel
theorem dX0_diagonalOf_20 : decode cX0_diagonalOf 20 = .ok (.istore_n 2, 1) := by decide +kernel
theorem dX0_diagonalOf_21 : decode cX0_diagonalOf 21 = .ok (.iinc 3 1, 3) := by decide +kernel
theorem dX0_diagonalOf_24 : decode cX0_diagonalOf 24 = .ok (.goto (-20), 3) := by decide +kernel
theorem dX0_diagonalOf_27 : decode cX0_diagonalOf 27 = .ok (.iload_n 2, 1) := by decide +kernel
theorem dX0_diagonalOf_28 : decode cX0_diagonalOf 28 = .ok (.ireturn, 1) := by decide +kernel
theorem dX0_setHighs_0 : decode cX0_setHighs 0 = .ok (.iload_n 2, 1) := by decide +kernel
theorem dX0_setHighs_1 : decode cX0_setHighs 1 = .ok (.istore_n 3, 1) := by decide +kernel
theorem dX0_setHighs_2 : decode cX0_setHighs 2 = .ok (.aload_n 1, 1) := by decide +kernel
theorem dX0_setHighs_3 : decode cX0_setHighs 3 = .ok (.getfield 30, 3) := by decide +kernel
theorem dX0_setHighs_6 : decode cX0_setHighs 6 = .ok (.iconst 1, 1) := by decide +kernel
theorem dX0_setHighs_7 : decode cX0_setHighs 7 = .ok (.isub, 1) := by decide +kernel
theorem dX0_setHighs_8 : decode cX0_setHighs 8 = .ok (.istore 4, 2) := by decide +kernel
theorem dX0_setHighs_10 : decode cX0_setHighs 10 = .ok (.iload 4, 2) := by decide +kernel
theorem dX0_setHighs_12 : decode cX0_setHighs 12 = .ok (.ifCond .lt 29, 3) := by decide +kernel
theorem dX0_setHighs_15 : decode cX0_setHighs 15 = .ok (.aload_n 0, 1) := by decide +kernel
theorem dX0_setHighs_16 : decode cX0_setHighs 16 = .ok (.getfield 15, 3) := by decide +kernel
theorem dX0_setHighs_19 : decode cX0_setHighs 19 = .ok (.iload 4, 2) := by decide +kernel
theorem dX0_setHighs_21 : decode cX0_setHighs 21 = .ok (.iload_n 3, 1) := by decide +kernel
theorem dX0_setHighs_22 : decode cX0_setHighs 22 = .ok (.aload_n 0, 1) := by decide +kernel
theorem dX0_setHighs_23 : decode cX0_setHighs 23 = .ok (.getfield 27, 3) := by decide +kernel
theorem dX0_setHighs_26 : decode cX0_setHighs 26 = .ok (.irem, 1) := by decide +kernel
theorem dX0_setHighs_27 : decode cX0_setHighs 27 = .ok (.iastore, 1) := by decide +kernel
theorem dX0_setHighs_28 : decode cX0_setHighs 28 = .ok (.iload_n 3, 1) := by decide +kernel
theorem dX0_setHighs_29 : decode cX0_setHighs 29 = .ok (.aload_n 0, 1) := by decide +kernel
theorem dX0_setHighs_30 : decode cX0_setHighs 30 = .ok (.getfield 27, 3) := by decide +kernel
theorem dX0_setHighs_33 : decode cX0_setHighs 33 = .ok (.idiv, 1) := by decide +kernel
theorem dX0_setHighs_34 : decode cX0_setHighs 34 = .ok (.istore_n 3, 1) := by decide +kernel
theorem dX0_setHighs_35 : decode cX0_setHighs 35 = .ok (.iinc 4 (-1), 3) := by decide +kernel
theorem dX0_setHighs_38 : decode cX0_setHighs 38 = .ok (.goto (-28), 3) := by decide +kernel
theorem dX0_setHighs_41 : decode cX0_setHighs 41 = .ok (.return_, 1) := by decide +kernel
theorem dX0_cornerMayBe_0 : decode cX0_cornerMayBe 0 = .ok (.iconst 0, 1) := by decide +kernel
theorem dX0_cornerMayBe_1 : decode cX0_cornerMayBe 1 = .ok (.istore_n 3, 1) := by decide +kernel
theorem dX0_cornerMayBe_2 : decode cX0_cornerMayBe 2 = .ok (.iload_n 3, 1) := by decide +kernel
theorem dX0_cornerMayBe_3 : decode cX0_cornerMayBe 3 = .ok (.aload_n 1, 1) := by decide +kernel
theorem dX0_cornerMayBe_4 : decode cX0_cornerMayBe 4 = .ok (.getfield 30, 3) := by decide +kernel
theorem dX0_cornerMayBe_7 : decode cX0_cornerMayBe 7 = .ok (.if_icmp .ge 61, 3) := by decide +kernel
theorem dX0_cornerMayBe_10 : decode cX0_cornerMayBe 10 = .ok (.iload_n 2, 1) := by decide +kernel
theorem dX0_cornerMayBe_11 : decode cX0_cornerMayBe 11 = .ok (.ifCond .eq 20, 3) := by decide +kernel
theorem dX0_cornerMayBe_14 : decode cX0_cornerMayBe 14 = .ok (.aload_n 0, 1) := by decide +kernel
theorem dX0_cornerMayBe_15 : decode cX0_cornerMayBe 15 = .ok (.getfield 15, 3) := by decide +kernel
theorem dX0_cornerMayBe_18 : decode cX0_cornerMayBe 18 = .ok (.iload_n 3, 1) := by decide +kernel
theorem dX0_cornerMayBe_19 : decode cX0_cornerMayBe 19 = .ok (.iaload, 1) := by decide +kernel
theorem dX0_cornerMayBe_20 : decode cX0_cornerMayBe 20 = .ok (.aload_n 1, 1) := by decide +kernel
theorem dX0_cornerMayBe_21 : decode cX0_cornerMayBe 21 = .ok (.getfield 21, 3) := by decide +kernel
theorem dX0_cornerMayBe_24 : decode cX0_cornerMayBe 24 = .ok (.if_icmp .ne 7, 3) := by decide +kernel
theorem dX0_cornerMayBe_27 : decode cX0_cornerMayBe 27 = .ok (.iconst 1, 1) := by decide +kernel
theorem dX0_cornerMayBe_28 : decode cX0_cornerMayBe 28 = .ok (.goto 4, 3) := by decide +kernel
theorem dX0_cornerMayBe_31 : decode cX0_cornerMayBe 31 = .ok (.iconst 0, 1) := by decide +kernel
theorem dX0_cornerMayBe_32 : decode cX0_cornerMayBe 32 = .ok (.istore 4, 2) := by decide +kernel
theorem dX0_cornerMayBe_34 : decode cX0_cornerMayBe 34 = .ok (.iload 4, 2) := by decide +kernel
theorem dX0_cornerMayBe_36 : decode cX0_cornerMayBe 36 = .ok (.ifCond .ne 26, 3) := by decide +kernel
theorem dX0_cornerMayBe_39 : decode cX0_cornerMayBe 39 = .ok (.aload_n 0, 1) := by decide +kernel
theorem dX0_cornerMayBe_40 : decode cX0_cornerMayBe 40 = .ok (.getfield 18, 3) := by decide +kernel
theorem dX0_cornerMayBe_43 : decode cX0_cornerMayBe 43 = .ok (.iload_n 3, 1) := by decide +kernel
theorem dX0_cornerMayBe_44 : decode cX0_cornerMayBe 44 = .ok (.aload_n 0, 1) := by decide +kernel
theorem dX0_cornerMayBe_45 : decode cX0_cornerMayBe 45 = .ok (.getfield 27, 3) := by decide +kernel
theorem dX0_cornerMayBe_48 : decode cX0_cornerMayBe 48 = .ok (.imul, 1) := by decide +kernel
theorem dX0_cornerMayBe_49 : decode cX0_cornerMayBe 49 = .ok (.aload_n 0, 1) := by decide +kernel
theorem dX0_cornerMayBe_50 : decode cX0_cornerMayBe 50 = .ok (.getfield 15, 3) := by decide +kernel
theorem dX0_cornerMayBe_53 : decode cX0_cornerMayBe 53 = .ok (.iload_n 3, 1) := by decide +kernel
theorem dX0_cornerMayBe_54 : decode cX0_cornerMayBe 54 = .ok (.iaload, 1) := by decide +kernel
theorem dX0_cornerMayBe_55 : decode cX0_cornerMayBe 55 = .ok (.iadd, 1) := by decide +kernel
theorem dX0_cornerMayBe_56 : decode cX0_cornerMayBe 56 = .ok (.iaload, 1) := by decide +kernel
theorem dX0_cornerMayBe_57 : decode cX0_cornerMayBe 57 = .ok (.ifCond .ne 5, 3) := by decide +kernel
theorem dX0_cornerMayBe_60 : decode cX0_cornerMayBe 60 = .ok (.iconst 0, 1) := by decide +kernel
theorem dX0_cornerMayBe_61 : decode cX0_cornerMayBe 61 = .ok (.ireturn, 1) := by decide +kernel
theorem dX0_cornerMayBe_62 : decode cX0_cornerMayBe 62 = .ok (.iinc 3 1, 3) := by decide +kernel
theorem dX0_cornerMayBe_65 : decode cX0_cornerMayBe 65 = .ok (.goto (-63), 3) := by decide +kernel
theorem dX0_cornerMayBe_68 : decode cX0_cornerMayBe 68 = .ok (.iconst 1, 1) := by decide +kernel
theorem dX0_cornerMayBe_69 : decode cX0_cornerMayBe 69 = .ok (.ireturn, 1) := by decide +kernel
theorem dX0_sizeOf_0 : decode cX0_sizeOf 0 = .ok (.lconst 1, 1) := by decide +kernel
theorem dX0_sizeOf_1 : decode cX0_sizeOf 1 = .ok (.lstore_n 2, 1) := by decide +kernel
theorem dX0_sizeOf_2 : decode cX0_sizeOf 2 = .ok (.iconst 0, 1) := by decide +kernel
theorem dX0_sizeOf_3 : decode cX0_sizeOf 3 = .ok (.istore 4, 2) := by decide +kernel
theorem dX0_sizeOf_5 : decode cX0_sizeOf 5 = .ok (.iload 4, 2) := by decide +kernel
theorem dX0_sizeOf_7 : decode cX0_sizeOf 7 = .ok (.aload_n 1, 1) := by decide +kernel
theorem dX0_sizeOf_8 : decode cX0_sizeOf 8 = .ok (.getfield 30, 3) := by decide +kernel
theorem dX0_sizeOf_11 : decode cX0_sizeOf 11 = .ok (.if_icmp .ge 20, 3) := by decide +kernel
theorem dX0_sizeOf_14 : decode cX0_sizeOf 14 = .ok (.lload_n 2, 1) := by decide +kernel
theorem dX0_sizeOf_15 : decode cX0_sizeOf 15 = .ok (.aload_n 0, 1) := by decide +kernel
theorem dX0_sizeOf_16 : decode cX0_sizeOf 16 = .ok (.getfield 15, 3) := by decide +kernel
theorem dX0_sizeOf_19 : decode cX0_sizeOf 19 = .ok (.iload 4, 2) := by decide +kernel
theorem dX0_sizeOf_21 : decode cX0_sizeOf 21 = .ok (.iaload, 1) := by decide +kernel
theorem dX0_sizeOf_22 : decode cX0_sizeOf 22 = .ok (.i2l, 1) := by decide +kernel
theorem dX0_sizeOf_23 : decode cX0_sizeOf 23 = .ok (.lmul, 1) := by decide +kernel
theorem dX0_sizeOf_24 : decode cX0_sizeOf 24 = .ok (.lstore_n 2, 1) := by decide +kernel
theorem dX0_sizeOf_25 : decode cX0_sizeOf 25 = .ok (.iinc 4 1, 3) := by decide +kernel
theorem dX0_sizeOf_28 : decode cX0_sizeOf 28 = .ok (.goto (-23), 3) := by decide +kernel
theorem dX0_sizeOf_31 : decode cX0_sizeOf 31 = .ok (.lload_n 2, 1) := by decide +kernel
theorem dX0_sizeOf_32 : decode cX0_sizeOf 32 = .ok (.lreturn, 1) := by decide +kernel
theorem dX1_init_0 : decode cX1_init 0 = .ok (.aload_n 0, 1) := by decide +kernel
theorem dX1_init_1 : decode cX1_init 1 = .ok (.invokespecial 3, 3) := by decide +kernel
theorem dX1_init_4 : decode cX1_init 4 = .ok (.aload_n 0, 1) := by decide +kernel
theorem dX1_init_5 : decode cX1_init 5 = .ok (.bipush 6, 2) := by decide +kernel
theorem dX1_init_7 : decode cX1_init 7 = .ok (.newarray .int, 2) := by decide +kernel
theorem dX1_init_9 : decode cX1_init 9 = .ok (.putfield 9, 3) := by decide +kernel
theorem dX1_init_12 : decode cX1_init 12 = .ok (.aload_n 0, 1) := by decide +kernel
theorem dX1_init_13 : decode cX1_init 13 = .ok (.bipush 8, 2) := by decide +kernel
theorem dX1_init_15 : decode cX1_init 15 = .ok (.newarray .int, 2) := by decide +kernel
theorem dX1_init_17 : decode cX1_init 17 = .ok (.putfield 15, 3) := by decide +kernel
theorem dX1_init_20 : decode cX1_init 20 = .ok (.return_, 1) := by decide +kernel
theorem dX1_gradeOfAll_0 : decode cX1_gradeOfAll 0 = .ok (.aload_n 0, 1) := by decide +kernel
theorem dX1_gradeOfAll_1 : decode cX1_gradeOfAll 1 = .ok (.aload_n 1, 1) := by decide +kernel
theorem dX1_gradeOfAll_2 : decode cX1_gradeOfAll 2 = .ok (.getfield 18, 3) := by decide +kernel
theorem dX1_gradeOfAll_5 : decode cX1_gradeOfAll 5 = .ok (.putfield 24, 3) := by decide +kernel
theorem dX1_gradeOfAll_8 : decode cX1_gradeOfAll 8 = .ok (.iconst 0, 1) := by decide +kernel
theorem dX1_gradeOfAll_9 : decode cX1_gradeOfAll 9 = .ok (.istore_n 2, 1) := by decide +kernel
theorem dX1_gradeOfAll_10 : decode cX1_gradeOfAll 10 = .ok (.iload_n 2, 1) := by decide +kernel
theorem dX1_gradeOfAll_11 : decode cX1_gradeOfAll 11 = .ok (.aload_n 0, 1) := by decide +kernel
theorem dX1_gradeOfAll_12 : decode cX1_gradeOfAll 12 = .ok (.getfield 24, 3) := by decide +kernel
theorem dX1_gradeOfAll_15 : decode cX1_gradeOfAll 15 = .ok (.if_icmp .ge 16, 3) := by decide +kernel
theorem dX1_gradeOfAll_18 : decode cX1_gradeOfAll 18 = .ok (.aload_n 0, 1) := by decide +kernel
theorem dX1_gradeOfAll_19 : decode cX1_gradeOfAll 19 = .ok (.getfield 9, 3) := by decide +kernel
theorem dX1_gradeOfAll_22 : decode cX1_gradeOfAll 22 = .ok (.iload_n 2, 1) := by decide +kernel
theorem dX1_gradeOfAll_23 : decode cX1_gradeOfAll 23 = .ok (.iload_n 2, 1) := by decide +kernel
theorem dX1_gradeOfAll_24 : decode cX1_gradeOfAll 24 = .ok (.iastore, 1) := by decide +kernel
theorem dX1_gradeOfAll_25 : decode cX1_gradeOfAll 25 = .ok (.iinc 2 1, 3) := by decide +kernel
theorem dX1_gradeOfAll_28 : decode cX1_gradeOfAll 28 = .ok (.goto (-18), 3) := by decide +kernel
theorem dX1_gradeOfAll_31 : decode cX1_gradeOfAll 31 = .ok (.aload_n 0, 1) := by decide +kernel
theorem dX1_gradeOfAll_32 : decode cX1_gradeOfAll 32 = .ok (.aload_n 1, 1) := by decide +kernel
theorem dX1_gradeOfAll_33 : decode cX1_gradeOfAll 33 = .ok (.invokevirtual 27, 3) := by decide +kernel
theorem dX1_gradeOfAll_36 : decode cX1_gradeOfAll 36 = .ok (.ireturn, 1) := by decide +kernel
theorem dX1_gradeOfTwo_0 : decode cX1_gradeOfTwo 0 = .ok (.aload_n 0, 1) := by decide +kernel
theorem dX1_gradeOfTwo_1 : decode cX1_gradeOfTwo 1 = .ok (.iconst 2, 1) := by decide +kernel
theorem dX1_gradeOfTwo_2 : decode cX1_gradeOfTwo 2 = .ok (.putfield 24, 3) := by decide +kernel
theorem dX1_gradeOfTwo_5 : decode cX1_gradeOfTwo 5 = .ok (.aload_n 0, 1) := by decide +kernel
theorem dX1_gradeOfTwo_6 : decode cX1_gradeOfTwo 6 = .ok (.getfield 9, 3) := by decide +kernel
theorem dX1_gradeOfTwo_9 : decode cX1_gradeOfTwo 9 = .ok (.iconst 0, 1) := by decide +kernel
theorem dX1_gradeOfTwo_10 : decode cX1_gradeOfTwo 10 = .ok (.iload_n 2, 1) := by decide +kernel
theorem dX1_gradeOfTwo_11 : decode cX1_gradeOfTwo 11 = .ok (.iastore, 1) := by decide +kernel
theorem dX1_gradeOfTwo_12 : decode cX1_gradeOfTwo 12 = .ok (.aload_n 0, 1) := by decide +kernel
theorem dX1_gradeOfTwo_13 : decode cX1_gradeOfTwo 13 = .ok (.getfield 9, 3) := by decide +kernel
theorem dX1_gradeOfTwo_16 : decode cX1_gradeOfTwo 16 = .ok (.iconst 1, 1) := by decide +kernel
theorem dX1_gradeOfTwo_17 : decode cX1_gradeOfTwo 17 = .ok (.iload_n 3, 1) := by decide +kernel
theorem dX1_gradeOfTwo_18 : decode cX1_gradeOfTwo 18 = .ok (.iastore, 1) := by decide +kernel
theorem dX1_gradeOfTwo_19 : decode cX1_gradeOfTwo 19 = .ok (.aload_n 0, 1) := by decide +kernel
theorem dX1_gradeOfTwo_20 : decode cX1_gradeOfTwo 20 = .ok (.aload_n 1, 1) := by decide +kernel
theorem dX1_gradeOfTwo_21 : decode cX1_gradeOfTwo 21 = .ok (.invokevirtual 27, 3) := by decide +kernel
theorem dX1_gradeOfTwo_24 : decode cX1_gradeOfTwo 24 = .ok (.ireturn, 1) := by decide +kernel
theorem dX1_gradeOfChosen_0 : decode cX1_gradeOfChosen 0 = .ok (.aload_n 0, 1) := by decide +kernel
theorem dX1_gradeOfChosen_1 : decode cX1_gradeOfChosen 1 = .ok (.iconst 0, 1) := by decide +kernel
theorem dX1_gradeOfChosen_2 : decode cX1_gradeOfChosen 2 = .ok (.putfield 31, 3) := by decide +kernel
theorem dX1_gradeOfChosen_5 : decode cX1_gradeOfChosen 5 = .ok (.aload_n 0, 1) := by decide +kernel
theorem dX1_gradeOfChosen_6 : decode cX1_gradeOfChosen 6 = .ok (.aload_n 1, 1) := by decide +kernel
theorem dX1_gradeOfChosen_7 : decode cX1_gradeOfChosen 7 = .ok (.getfield 34, 3) := by decide +kernel
theorem dX1_gradeOfChosen_10 : decode cX1_gradeOfChosen 10 = .ok (.iconst 1, 1) := by decide +kernel
theorem dX1_gradeOfChosen_11 : decode cX1_gradeOfChosen 11 = .ok (.iadd, 1) := by decide +kernel
theorem dX1_gradeOfChosen_12 : decode cX1_gradeOfChosen 12 = .ok (.putfield 37, 3) := by decide +kernel
theorem dX1_gradeOfChosen_15 : decode cX1_gradeOfChosen 15 = .ok (.aload_n 0, 1) := by decide +kernel
theorem dX1_gradeOfChosen_16 : decode cX1_gradeOfChosen 16 = .ok (.aload_n 1, 1) := by decide +kernel
theorem dX1_gradeOfChosen_17 : decode cX1_gradeOfChosen 17 = .ok (.iconst 0, 1) := by decide +kernel
theorem dX1_gradeOfChosen_18 : decode cX1_gradeOfChosen 18 = .ok (.invokevirtual 40, 3) := by decide +kernel
theorem dX1_gradeOfChosen_21 : decode cX1_gradeOfChosen 21 = .ok (.aload_n 1, 1) := by decide +kernel
theorem dX1_gradeOfChosen_22 : decode cX1_gradeOfChosen 22 = .ok (.getfield 34, 3) := by decide +kernel
theorem dX1_gradeOfChosen_25 : decode cX1_gradeOfChosen 25 = .ok (.iconst 1, 1) := by decide +kernel
theorem dX1_gradeOfChosen_26 : decode cX1_gradeOfChosen 26 = .ok (.iadd, 1) := by decide +kernel
theorem dX1_gradeOfChosen_27 : decode cX1_gradeOfChosen 27 = .ok (.aload_n 0, 1) := by decide +kernel
theorem dX1_gradeOfChosen_28 : decode cX1_gradeOfChosen 28 = .ok (.getfield 37, 3) := by decide +kernel
theorem dX1_gradeOfChosen_31 : decode cX1_gradeOfChosen 31 = .ok (.isub, 1) := by decide +kernel
theorem dX1_gradeOfChosen_32 : decode cX1_gradeOfChosen 32 = .ok (.ireturn, 1) := by decide +kernel
theorem dX1_walk_0 : decode cX1_walk 0 = .ok (.iload_n 2, 1) := by decide +kernel
theorem dX1_walk_1 : decode cX1_walk 1 = .ok (.aload_n 0, 1) := by decide +kernel
theorem dX1_walk_2 : decode cX1_walk 2 = .ok (.getfield 24, 3) := by decide +kernel
theorem dX1_walk_5 : decode cX1_walk 5 = .ok (.if_icmp .ge 9, 3) := by decide +kernel
theorem dX1_walk_8 : decode cX1_walk 8 = .ok (.iload_n 2, 1) := by decide +kernel
theorem dX1_walk_9 : decode cX1_walk 9 = .ok (.bipush 6, 2) := by decide +kernel
theorem dX1_walk_11 : decode cX1_walk 11 = .ok (.if_icmp .lt 4, 3) := by decide +kernel
theorem dX1_walk_14 : decode cX1_walk 14 = .ok (.return_, 1) := by decide +kernel
theorem dX1_walk_15 : decode cX1_walk 15 = .ok (.aload_n 0, 1) := by decide +kernel
theorem dX1_walk_16 : decode cX1_walk 16 = .ok (.getfield 31, 3) := by decide +kernel
theorem dX1_walk_19 : decode cX1_walk 19 = .ok (.istore_n 3, 1) := by decide +kernel
theorem dX1_walk_20 : decode cX1_walk 20 = .ok (.iconst 0, 1) := by decide +kernel
theorem dX1_walk_21 : decode cX1_walk 21 = .ok (.istore 4, 2) := by decide +kernel
theorem dX1_walk_23 : decode cX1_walk 23 = .ok (.iload 4, 2) := by decide +kernel
theorem dX1_walk_25 : decode cX1_walk 25 = .ok (.aload_n 1, 1) := by decide +kernel
theorem dX1_walk_26 : decode cX1_walk 26 = .ok (.getfield 34, 3) := by decide +kernel
theorem dX1_walk_29 : decode cX1_walk 29 = .ok (.if_icmp .gt 74, 3) := by decide +kernel
theorem dX1_walk_32 : decode cX1_walk 32 = .ok (.aload_n 0, 1) := by decide +kernel
theorem dX1_walk_33 : decode cX1_walk 33 = .ok (.aload_n 1, 1) := by decide +kernel
theorem dX1_walk_34 : decode cX1_walk 34 = .ok (.iload_n 2, 1) := by decide +kernel
theorem dX1_walk_35 : decode cX1_walk 35 = .ok (.iconst 1, 1) := by decide +kernel
theorem dX1_walk_36 : decode cX1_walk 36 = .ok (.iadd, 1) := by decide +kernel
theorem dX1_walk_37 : decode cX1_walk 37 = .ok (.invokevirtual 40, 3) := by decide +kernel
theorem dX1_walk_40 : decode cX1_walk 40 = .ok (.iload 4, 2) := by decide +kernel
theorem dX1_walk_42 : decode cX1_walk 42 = .ok (.aload_n 1, 1) := by decide +kernel
theorem dX1_walk_43 : decode cX1_walk 43 = .ok (.getfield 34, 3) := by decide +kernel
theorem dX1_walk_46 : decode cX1_walk 46 = .ok (.if_icmp .eq 57, 3) := by decide +kernel
theorem dX1_walk_49 : decode cX1_walk 49 = .ok (.aload_n 0, 1) := by decide +kernel
theorem dX1_walk_50 : decode cX1_walk 50 = .ok (.getfield 31, 3) := by decide +kernel
theorem dX1_walk_53 : decode cX1_walk 53 = .ok (.iconst 1, 1) := by decide +kernel
theorem dX1_walk_54 : decode cX1_walk 54 = .ok (.iadd, 1) := by decide +kernel
theorem dX1_walk_55 : decode cX1_walk 55 = .ok (.aload_n 0, 1) := by decide +kernel
theorem dX1_walk_56 : decode cX1_walk 56 = .ok (.getfield 37, 3) := by decide +kernel
theorem dX1_walk_59 : decode cX1_walk 59 = .ok (.if_icmp .lt 6, 3) := by decide +kernel
theorem dX1_walk_62 : decode cX1_walk 62 = .ok (.goto 41, 3) := by decide +kernel
theorem dX1_walk_65 : decode cX1_walk 65 = .ok (.aload_n 0, 1) := by decide +kernel
theorem dX1_walk_66 : decode cX1_walk 66 = .ok (.aload_n 1, 1) := by decide +kernel
theorem dX1_walk_67 : decode cX1_walk 67 = .ok (.aload_n 0, 1) := by decide +kernel
theorem dX1_walk_68 : decode cX1_walk 68 = .ok (.getfield 9, 3) := by decide +kernel
theorem dX1_walk_71 : decode cX1_walk 71 = .ok (.iload_n 2, 1) := by decide +kernel
theorem dX1_walk_72 : decode cX1_walk 72 = .ok (.iaload, 1) := by decide +kernel
theorem dX1_walk_73 : decode cX1_walk 73 = .ok (.iload 4, 2) := by decide +kernel
theorem dX1_walk_75 : decode cX1_walk 75 = .ok (.invokevirtual 44, 3) := by decide +kernel
theorem dX1_walk_78 : decode cX1_walk 78 = .ok (.invokevirtual 48, 3) := by decide +kernel
theorem dX1_walk_81 : decode cX1_walk 81 = .ok (.ifCond .ne 16, 3) := by decide +kernel
theorem dX1_walk_84 : decode cX1_walk 84 = .ok (.aload_n 0, 1) := by decide +kernel
theorem dX1_walk_85 : decode cX1_walk 85 = .ok (.aload_n 0, 1) := by decide +kernel
theorem dX1_walk_86 : decode cX1_walk 86 = .ok (.getfield 31, 3) := by decide +kernel
theorem dX1_walk_89 : decode cX1_walk 89 = .ok (.iconst 1, 1) := by decide +kernel
theorem dX1_walk_90 : decode cX1_walk 90 = .ok (.iadd, 1) := by decide +kernel
theorem dX1_walk_91 : decode cX1_walk 91 = .ok (.putfield 37, 3) := by decide +kernel
theorem dX1_walk_94 : decode cX1_walk 94 = .ok (.goto 9, 3) := by decide +kernel
theorem dX1_walk_97 : decode cX1_walk 97 = .ok (.iinc 4 1, 3) := by decide +kernel
theorem dX1_walk_100 : decode cX1_walk 100 = .ok (.goto (-77), 3) := by decide +kernel
theorem dX1_walk_103 : decode cX1_walk 103 = .ok (.aload_n 0, 1) := by decide +kernel
theorem dX1_walk_104 : decode cX1_walk 104 = .ok (.iload_n 3, 1) := by decide +kernel
theorem dX1_walk_105 : decode cX1_walk 105 = .ok (.putfield 31, 3) := by decide +kernel
theorem dX1_walk_108 : decode cX1_walk 108 = .ok (.return_, 1) := by decide +kernel
theorem dX1_keepIfIndependent_0 : decode cX1_keepIfIndependent 0 = .ok (.iload_n 1, 1) := by decide +kernel
theorem dX1_keepIfIndependent_1 : decode cX1_keepIfIndependent 1 = .ok (.istore_n 2, 1) := by decide +kernel
theorem dX1_keepIfIndependent_2 : decode cX1_keepIfIndependent 2 = .ok (.iconst 0, 1) := by decide +kernel
theorem dX1_keepIfIndependent_3 : decode cX1_keepIfIndependent 3 = .ok (.istore_n 3, 1) := by decide +kernel
theorem dX1_keepIfIndependent_4 : decode cX1_keepIfIndependent 4 = .ok (.iload_n 3, 1) := by decide +kernel
theorem dX1_keepIfIndependent_5 : decode cX1_keepIfIndependent 5 = .ok (.aload_n 0, 1) := by decide +kernel
theorem dX1_keepIfIndependent_6 : decode cX1_keepIfIndependent 6 = .ok (.getfield 31, 3) := by decide +kernel
theorem dX1_keepIfIndependent_9 : decode cX1_keepIfIndependent 9 = .ok (.if_icmp .ge 22, 3) := by decide +kernel
theorem dX1_keepIfIndependent_12 : decode cX1_keepIfIndependent 12 = .ok (.iload_n 2, 1) := by decide +kernel
theorem dX1_keepIfIndependent_13 : decode cX1_keepIfIndependent 13 = .ok (.iload_n 2, 1) := by decide +kernel
theorem dX1_keepIfIndependent_14 : decode cX1_keepIfIndependent 14 = .ok (.aload_n 0, 1) := by decide +kernel
theorem dX1_keepIfIndependent_15 : decode cX1_keepIfIndependent 15 = .ok (.getfield 15, 3) := by decide +kernel
theorem dX1_keepIfIndependent_18 : decode cX1_keepIfIndependent 18 = .ok (.iload_n 3, 1) := by decide +kernel
theorem dX1_keepIfIndependent_19 : decode cX1_keepIfIndependent 19 = .ok (.iaload, 1) := by decide +kernel
theorem dX1_keepIfIndependent_20 : decode cX1_keepIfIndependent 20 = .ok (.ixor, 1) := by decide +kernel
theorem dX1_keepIfIndependent_21 : decode cX1_keepIfIndependent 21 = .ok (.invokestatic 52, 3) := by decide +kernel
theorem dX1_keepIfIndependent_24 : decode cX1_keepIfIndependent 24 = .ok (.istore_n 2, 1) := by decide +kernel
theorem dX1_keepIfIndependent_25 : decode cX1_keepIfIndependent 25 = .ok (.iinc 3 1, 3) := by decide +kernel
theorem dX1_keepIfIndependent_28 : decode cX1_keepIfIndependent 28 = .ok (.goto (-24), 3) := by decide +kernel
theorem dX1_keepIfIndependent_31 : decode cX1_keepIfIndependent 31 = .ok (.iload_n 2, 1) := by decide +kernel
theorem dX1_keepIfIndependent_32 : decode cX1_keepIfIndependent 32 = .ok (.ifCond .eq 12, 3) := by decide +kernel
theorem dX1_keepIfIndependent_35 : decode cX1_keepIfIndependent 35 = .ok (.aload_n 0, 1) := by decide +kernel
theorem dX1_keepIfIndependent_36 : decode cX1_keepIfIndependent 36 = .ok (.getfield 31, 3) := by decide +kernel
theorem dX1_keepIfIndependent_39 : decode cX1_keepIfIndependent 39 = .ok (.bipush 8, 2) := by decide +kernel
theorem dX1_keepIfIndependent_41 : decode cX1_keepIfIndependent 41 = .ok (.if_icmp .lt 5, 3) := by decide +kernel
theorem dX1_keepIfIndependent_44 : decode cX1_keepIfIndependent 44 = .ok (.iconst 0, 1) := by decide +kernel
theorem dX1_keepIfIndependent_45 : decode cX1_keepIfIndependent 45 = .ok (.ireturn, 1) := by decide +kernel
theorem dX1_keepIfIndependent_46 : decode cX1_keepIfIndependent 46 = .ok (.aload_n 0, 1) := by decide +kernel
theorem dX1_keepIfIndependent_47 : decode cX1_keepIfIndependent 47 = .ok (.getfield 15, 3) := by decide +kernel
theorem dX1_keepIfIndependent_50 : decode cX1_keepIfIndependent 50 = .ok (.aload_n 0, 1) := by decide +kernel
theorem dX1_keepIfIndependent_51 : decode cX1_keepIfIndependent 51 = .ok (.getfield 31, 3) := by decide +kernel
theorem dX1_keepIfIndependent_54 : decode cX1_keepIfIndependent 54 = .ok (.iload_n 2, 1) := by decide +kernel
theorem dX1_keepIfIndependent_55 : decode cX1_keepIfIndependent 55 = .ok (.iastore, 1) := by decide +kernel
theorem dX1_keepIfIndependent_56 : decode cX1_keepIfIndependent 56 = .ok (.aload_n 0, 1) := by decide +kernel
theorem dX1_keepIfIndependent_57 : decode cX1_keepIfIndependent 57 = .ok (.dup, 1) := by decide +kernel
theorem dX1_keepIfIndependent_58 : decode cX1_keepIfIndependent 58 = .ok (.getfield 31, 3) := by decide +kernel
theorem dX1_keepIfIndependent_61 : decode cX1_keepIfIndependent 61 = .ok (.iconst 1, 1) := by decide +kernel
theorem dX1_keepIfIndependent_62 : decode cX1_keepIfIndependent 62 = .ok (.iadd, 1) := by decide +kernel
theorem dX1_keepIfIndependent_63 : decode cX1_keepIfIndependent 63 = .ok (.putfield 31, 3) := by decide +kernel
theorem dX1_keepIfIndependent_66 : decode cX1_keepIfIndependent 66 = .ok (.iconst 1, 1) := by decide +kernel
theorem dX1_keepIfIndependent_67 : decode cX1_keepIfIndependent 67 = .ok (.ireturn, 1) := by decide +kernel
theorem dX2_init_0 : decode cX2_init 0 = .ok (.aload_n 0, 1) := by decide +kernel
theorem dX2_init_1 : decode cX2_init 1 = .ok (.invokespecial 3, 3) := by decide +kernel
theorem dX2_init_4 : decode cX2_init 4 = .ok (.aload_n 0, 1) := by decide +kernel
theorem dX2_init_5 : decode cX2_init 5 = .ok (.bipush 48, 2) := by decide +kernel
theorem dX2_init_7 : decode cX2_init 7 = .ok (.newarray .int, 2) := by decide +kernel
theorem dX2_init_9 : decode cX2_init 9 = .ok (.putfield 9, 3) := by decide +kernel
theorem dX2_init_12 : decode cX2_init 12 = .ok (.aload_n 0, 1) := by decide +kernel
theorem dX2_init_13 : decode cX2_init 13 = .ok (.bipush 6, 2) := by decide +kernel
theorem dX2_init_15 : decode cX2_init 15 = .ok (.newarray .int, 2) := by decide +kernel
theorem dX2_init_17 : decode cX2_init 17 = .ok (.putfield 15, 3) := by decide +kernel
theorem dX2_init_20 : decode cX2_init 20 = .ok (.aload_n 0, 1) := by decide +kernel
theorem dX2_init_21 : decode cX2_init 21 = .ok (.bipush 6, 2) := by decide +kernel
theorem dX2_init_23 : decode cX2_init 23 = .ok (.newarray .int, 2) := by decide +kernel
theorem dX2_init_25 : decode cX2_init 25 = .ok (.putfield 18, 3) := by decide +kernel
theorem dX2_init_28 : decode cX2_init 28 = .ok (.aload_n 0, 1) := by decide +kernel
theorem dX2_init_29 : decode cX2_init 29 = .ok (.iload_n 1, 1) := by decide +kernel
theorem dX2_init_30 : decode cX2_init 30 = .ok (.putfield 21, 3) := by decide +kernel
theorem dX2_init_33 : decode cX2_init 33 = .ok (.aload_n 0, 1) := by decide +kernel
theorem dX2_init_34 : decode cX2_init 34 = .ok (.iload_n 2, 1) := by decide +kernel
theorem dX2_init_35 : decode cX2_init 35 = .ok (.putfield 25, 3) := by decide +kernel
theorem dX2_init_38 : decode cX2_init 38 = .ok (.aload_n 0, 1) := by decide +kernel
theorem dX2_init_39 : decode cX2_init 39 = .ok (.iload_n 3, 1) := by decide +kernel
theorem dX2_init_40 : decode cX2_init 40 = .ok (.putfield 28, 3) := by decide +kernel
theorem dX2_init_43 : decode cX2_init 43 = .ok (.aload_n 0, 1) := by decide +kernel
theorem dX2_init_44 : decode cX2_init 44 = .ok (.iconst 1, 1) := by decide +kernel
theorem dX2_init_45 : decode cX2_init 45 = .ok (.iload 4, 2) := by decide +kernel
theorem dX2_init_47 : decode cX2_init 47 = .ok (.sipush 256, 3) := by decide +kernel
theorem dX2_init_50 : decode cX2_init 50 = .ok (.invokestatic 31, 3) := by decide +kernel
theorem dX2_init_53 : decode cX2_init 53 = .ok (.invokestatic 37, 3) := by decide +kernel
theorem dX2_init_56 : decode cX2_init 56 = .ok (.putfield 40, 3) := by decide +kernel
theorem dX2_init_59 : decode cX2_init 59 = .ok (.aload_n 0, 1) := by decide +kernel
theorem dX2_init_60 : decode cX2_init 60 = .ok (.iconst 0, 1) := by decide +kernel
theorem dX2_init_61 : decode cX2_init 61 = .ok (.putfield 43, 3) := by decide +kernel
theorem dX2_init_64 : decode cX2_init 64 = .ok (.aload_n 0, 1) := by decide +kernel
theorem dX2_init_65 : decode cX2_init 65 = .ok (.bipush 6, 2) := by decide +kernel
theorem dX2_init_67 : decode cX2_init 67 = .ok (.aload_n 0, 1) := by decide +kernel
theorem dX2_init_68 : decode cX2_init 68 = .ok (.getfield 40, 3) := by decide +kernel
theorem dX2_init_71 : decode cX2_init 71 = .ok (.imul, 1) := by decide +kernel
theorem dX2_init_72 : decode cX2_init 72 = .ok (.newarray .int, 2) := by decide +kernel
theorem dX2_init_74 : decode cX2_init 74 = .ok (.putfield 46, 3) := by decide +kernel
theorem dX2_init_77 : decode cX2_init 77 = .ok (.return_, 1) := by decide +kernel
theorem dX2_hasDirection_0 : decode cX2_hasDirection 0 = .ok (.iload_n 1, 1) := by decide +kernel
theorem dX2_hasDirection_1 : decode cX2_hasDirection 1 = .ok (.ifCond .lt 15, 3) := by decide +kernel
theorem dX2_hasDirection_4 : decode cX2_hasDirection 4 = .ok (.iload_n 1, 1) := by decide +kernel
theorem dX2_hasDirection_5 : decode cX2_hasDirection 5 = .ok (.aload_n 0, 1) := by decide +kernel
theorem dX2_hasDirection_6 : decode cX2_hasDirection 6 = .ok (.getfield 25, 3) := by decide +kernel
theorem dX2_hasDirection_9 : decode cX2_hasDirection 9 = .ok (.if_icmp .ge 7, 3) := by decide +kernel
theorem dX2_hasDirection_12 : decode cX2_hasDirection 12 = .ok (.iconst 1, 1) := by decide +kernel
theorem dX2_hasDirection_13 : decode cX2_hasDirection 13 = .ok (.goto 4, 3) := by decide +kernel
theorem dX2_hasDirection_16 : decode cX2_hasDirection 16 = .ok (.iconst 0, 1) := by decide +kernel
theorem dX2_hasDirection_17 : decode cX2_hasDirection 17 = .ok (.ireturn, 1) := by decide +kernel
theorem dX2_hasRows_0 : decode cX2_hasRows 0 = .ok (.aload_n 0, 1) := by decide +kernel
theorem dX2_hasRows_1 : decode cX2_hasRows 1 = .ok (.getfield 21, 3) := by decide +kernel
theorem dX2_hasRows_4 : decode cX2_hasRows 4 = .ok (.ifCond .eq 19, 3) := by decide +kernel
theorem dX2_hasRows_7 : decode cX2_hasRows 7 = .ok (.aload_n 0, 1) := by decide +kernel
theorem dX2_hasRows_8 : decode cX2_hasRows 8 = .ok (.getfield 21, 3) := by decide +kernel
theorem dX2_hasRows_11 : decode cX2_hasRows 11 = .ok (.iconst 1, 1) := by decide +kernel
theorem dX2_hasRows_12 : decode cX2_hasRows 12 = .ok (.if_icmp .eq 11, 3) := by decide +kernel
theorem dX2_hasRows_15 : decode cX2_hasRows 15 = .ok (.aload_n 0, 1) := by decide +kernel
theorem dX2_hasRows_16 : decode cX2_hasRows 16 = .ok (.getfield 21, 3) := by decide +kernel
theorem dX2_hasRows_19 : decode cX2_hasRows 19 = .ok (.iconst 2, 1) := by decide +kernel
theorem dX2_hasRows_20 : decode cX2_hasRows 20 = .ok (.if_icmp .ne 7, 3) := by decide +kernel
theorem dX2_hasRows_23 : decode cX2_hasRows 23 = .ok (.iconst 1, 1) := by decide +kernel
theorem dX2_hasRows_24 : decode cX2_hasRows 24 = .ok (.goto 4, 3) := by decide +kernel
theorem dX2_hasRows_27 : decode cX2_hasRows 27 = .ok (.iconst 0, 1) := by decide +kernel
theorem dX2_hasRows_28 : decode cX2_hasRows 28 = .ok (.ireturn, 1) := by decide +kernel
theorem dX2_partAt_0 : decode cX2_partAt 0 = .ok (.aload_n 0, 1) := by decide +kernel
theorem dX2_partAt_1 : decode cX2_partAt 1 = .ok (.getfield 46, 3) := by decide +kernel
theorem dX2_partAt_4 : decode cX2_partAt 4 = .ok (.iload_n 2, 1) := by decide +kernel
theorem dX2_partAt_5 : decode cX2_partAt 5 = .ok (.aload_n 0, 1) := by decide +kernel
theorem dX2_partAt_6 : decode cX2_partAt 6 = .ok (.getfield 40, 3) := by decide +kernel
theorem dX2_partAt_9 : decode cX2_partAt 9 = .ok (.imul, 1) := by decide +kernel
theorem dX2_partAt_10 : decode cX2_partAt 10 = .ok (.iload_n 1, 1) := by decide +kernel
theorem dX2_partAt_11 : decode cX2_partAt 11 = .ok (.iadd, 1) := by decide +kernel
theorem dX2_partAt_12 : decode cX2_partAt 12 = .ok (.iaload, 1) := by decide +kernel
theorem dX2_partAt_13 : decode cX2_partAt 13 = .ok (.ireturn, 1) := by decide +kernel
theorem dX2_rowAt_0 : decode cX2_rowAt 0 = .ok (.aload_n 0, 1) := by decide +kernel
theorem dX2_rowAt_1 : decode cX2_rowAt 1 = .ok (.getfield 9, 3) := by decide +kernel
theorem dX2_rowAt_4 : decode cX2_rowAt 4 = .ok (.iload_n 1, 1) := by decide +kernel
theorem dX2_rowAt_5 : decode cX2_rowAt 5 = .ok (.bipush 8, 2) := by decide +kernel
theorem dX2_rowAt_7 : decode cX2_rowAt 7 = .ok (.imul, 1) := by decide +kernel
theorem dX2_rowAt_8 : decode cX2_rowAt 8 = .ok (.iload_n 2, 1) := by decide +kernel
theorem dX2_rowAt_9 : decode cX2_rowAt 9 = .ok (.iadd, 1) := by decide +kernel
theorem dX2_rowAt_10 : decode cX2_rowAt 10 = .ok (.iaload, 1) := by decide +kernel
theorem dX2_rowAt_11 : decode cX2_rowAt 11 = .ok (.ireturn, 1) := by decide +kernel
theorem dX2_setRow_0 : decode cX2_setRow 0 = .ok (.aload_n 0, 1) := by decide +kernel
theorem dX2_setRow_1 : decode cX2_setRow 1 = .ok (.getfield 9, 3) := by decide +kernel
theorem dX2_setRow_4 : decode cX2_setRow 4 = .ok (.iload_n 1, 1) := by decide +kernel
theorem dX2_setRow_5 : decode cX2_setRow 5 = .ok (.bipush 8, 2) := by decide +kernel
theorem dX2_setRow_7 : decode cX2_setRow 7 = .ok (.imul, 1) := by decide +kernel
theorem dX2_setRow_8 : decode cX2_setRow 8 = .ok (.iload_n 2, 1) := by decide +kernel
theorem dX2_setRow_9 : decode cX2_setRow 9 = .ok (.iadd, 1) := by decide +kernel
theorem dX2_setRow_10 : decode cX2_setRow 10 = .ok (.iload_n 3, 1) := by decide +kernel
theorem dX2_setRow_11 : decode cX2_setRow 11 = .ok (.iastore, 1) := by decide +kernel
theorem dX2_setRow_12 : decode cX2_setRow 12 = .ok (.return_, 1) := by decide +kernel
theorem dX2_pointOfTurn_0 : decode cX2_pointOfTurn 0 = .ok (.aload_n 0, 1) := by decide +kernel
theorem dX2_pointOfTurn_1 : decode cX2_pointOfTurn 1 = .ok (.getfield 43, 3) := by decide +kernel
theorem dX2_pointOfTurn_4 : decode cX2_pointOfTurn 4 = .ok (.aload_n 0, 1) := by decide +kernel
theorem dX2_pointOfTurn_5 : decode cX2_pointOfTurn 5 = .ok (.getfield 40, 3) := by decide +kernel
theorem dX2_pointOfTurn_8 : decode cX2_pointOfTurn 8 = .ok (.irem, 1) := by decide +kernel
theorem dX2_pointOfTurn_9 : decode cX2_pointOfTurn 9 = .ok (.istore_n 1, 1) := by decide +kernel
theorem dX2_pointOfTurn_10 : decode cX2_pointOfTurn 10 = .ok (.aload_n 0, 1) := by decide +kernel
theorem dX2_pointOfTurn_11 : decode cX2_pointOfTurn 11 = .ok (.getfield 21, 3) := by decide +kernel
theorem dX2_pointOfTurn_14 : decode cX2_pointOfTurn 14 = .ok (.iconst 3, 1) := by decide +kernel
theorem dX2_pointOfTurn_15 : decode cX2_pointOfTurn 15 = .ok (.if_icmp .ne 7, 3) := by decide +kernel
theorem dX2_pointOfTurn_18 : decode cX2_pointOfTurn 18 = .ok (.iload_n 1, 1) := by decide +kernel
theorem dX2_pointOfTurn_19 : decode cX2_pointOfTurn 19 = .ok (.goto 8, 3) := by decide +kernel
theorem dX2_pointOfTurn_22 : decode cX2_pointOfTurn 22 = .ok (.iload_n 1, 1) := by decide +kernel
theorem dX2_pointOfTurn_23 : decode cX2_pointOfTurn 23 = .ok (.iload_n 1, 1) := by decide +kernel
theorem dX2_pointOfTurn_24 : decode cX2_pointOfTurn 24 = .ok (.iconst 1, 1) := by decide +kernel
theorem dX2_pointOfTurn_25 : decode cX2_pointOfTurn 25 = .ok (.ishr, 1) := by decide +kernel
theorem dX2_pointOfTurn_26 : decode cX2_pointOfTurn 26 = .ok (.ixor, 1) := by decide +kernel
theorem dX2_pointOfTurn_27 : decode cX2_pointOfTurn 27 = .ok (.ireturn, 1) := by decide +kernel
theorem dX2_takeRowsAndMasks_0 : decode cX2_takeRowsAndMasks 0 = .ok (.aload_n 1, 1) := by decide +kernel
theorem dX2_takeRowsAndMasks_1 : decode cX2_takeRowsAndMasks 1 = .ok (.getfield 9, 3) := by decide +kernel
theorem dX2_takeRowsAndMasks_4 : decode cX2_takeRowsAndMasks 4 = .ok (.iconst 0, 1) := by decide +kernel
theorem dX2_takeRowsAndMasks_5 : decode cX2_takeRowsAndMasks 5 = .ok (.aload_n 0, 1) := by decide +kernel
theorem dX2_takeRowsAndMasks_6 : decode cX2_takeRowsAndMasks 6 = .ok (.getfield 9, 3) := by decide +kernel
theorem dX2_takeRowsAndMasks_9 : decode cX2_takeRowsAndMasks 9 = .ok (.iconst 0, 1) := by decide +kernel
theorem dX2_takeRowsAndMasks_10 : decode cX2_takeRowsAndMasks 10 = .ok (.aload_n 0, 1) := by decide +kernel
theorem dX2_takeRowsAndMasks_11 : decode cX2_takeRowsAndMasks 11 = .ok (.getfield 9, 3) := by decide +kernel
theorem dX2_takeRowsAndMasks_14 : decode cX2_takeRowsAndMasks 14 = .ok (.arraylength, 1) := by decide +kernel
theorem dX2_takeRowsAndMasks_15 : decode cX2_takeRowsAndMasks 15 = .ok (.invokestatic 49, 3) := by decide +kernel
theorem dX2_takeRowsAndMasks_18 : decode cX2_takeRowsAndMasks 18 = .ok (.aload_n 1, 1) := by decide +kernel
theorem dX2_takeRowsAndMasks_19 : decode cX2_takeRowsAndMasks 19 = .ok (.getfield 15, 3) := by decide +kernel
theorem dX2_takeRowsAndMasks_22 : decode cX2_takeRowsAndMasks 22 = .ok (.iconst 0, 1) := by decide +kernel
theorem dX2_takeRowsAndMasks_23 : decode cX2_takeRowsAndMasks 23 = .ok (.aload_n 0, 1) := by decide +kernel
theorem dX2_takeRowsAndMasks_24 : decode cX2_takeRowsAndMasks 24 = .ok (.getfield 15, 3) := by decide +kernel
theorem dX2_takeRowsAndMasks_27 : decode cX2_takeRowsAndMasks 27 = .ok (.iconst 0, 1) := by decide +kernel
theorem dX2_takeRowsAndMasks_28 : decode cX2_takeRowsAndMasks 28 = .ok (.aload_n 0, 1) := by decide +kernel
theorem dX2_takeRowsAndMasks_29 : decode cX2_takeRowsAndMasks 29 = .ok (.getfield 15, 3) := by decide +kernel
theorem dX2_takeRowsAndMasks_32 : decode cX2_takeRowsAndMasks 32 = .ok (.arraylength, 1) := by decide +kernel
theorem dX2_takeRowsAndMasks_33 : decode cX2_takeRowsAndMasks 33 = .ok (.invokestatic 49, 3) := by decide +kernel
theorem dX2_takeRowsAndMasks_36 : decode cX2_takeRowsAndMasks 36 = .ok (.iconst 0, 1) := by decide +kernel
theorem dX2_takeRowsAndMasks_37 : decode cX2_takeRowsAndMasks 37 = .ok (.istore_n 2, 1) := by decide +kernel
theorem dX2_takeRowsAndMasks_38 : decode cX2_takeRowsAndMasks 38 = .ok (.iload_n 2, 1) := by decide +kernel
theorem dX2_takeRowsAndMasks_39 : decode cX2_takeRowsAndMasks 39 = .ok (.aload_n 0, 1) := by decide +kernel
theorem dX2_takeRowsAndMasks_40 : decode cX2_takeRowsAndMasks 40 = .ok (.getfield 25, 3) := by decide +kernel
theorem dX2_takeRowsAndMasks_43 : decode cX2_takeRowsAndMasks 43 = .ok (.if_icmp .ge 14, 3) := by decide +kernel
theorem dX2_takeRowsAndMasks_46 : decode cX2_takeRowsAndMasks 46 = .ok (.aload_n 0, 1) := by decide +kernel
theorem dX2_takeRowsAndMasks_47 : decode cX2_takeRowsAndMasks 47 = .ok (.iload_n 2, 1) := by decide +kernel
theorem dX2_takeRowsAndMasks_48 : decode cX2_takeRowsAndMasks 48 = .ok (.invokevirtual 55, 3) := by decide +kernel
theorem dX2_takeRowsAndMasks_51 : decode cX2_takeRowsAndMasks 51 = .ok (.iinc 2 1, 3) := by decide +kernel
theorem dX2_takeRowsAndMasks_54 : decode cX2_takeRowsAndMasks 54 = .ok (.goto (-16), 3) := by decide +kernel
theorem dX2_takeRowsAndMasks_57 : decode cX2_takeRowsAndMasks 57 = .ok (.return_, 1) := by decide +kernel
theorem dX2_fillFromRows_0 : decode cX2_fillFromRows 0 = .ok (.iload_n 1, 1) := by decide +kernel
theorem dX2_fillFromRows_1 : decode cX2_fillFromRows 1 = .ok (.aload_n 0, 1) := by decide +kernel
theorem dX2_fillFromRows_2 : decode cX2_fillFromRows 2 = .ok (.getfield 40, 3) := by decide +kernel
theorem dX2_fillFromRows_5 : decode cX2_fillFromRows 5 = .ok (.imul, 1) := by decide +kernel
theorem dX2_fillFromRows_6 : decode cX2_fillFromRows 6 = .ok (.istore_n 2, 1) := by decide +kernel
theorem dX2_fillFromRows_7 : decode cX2_fillFromRows 7 = .ok (.aload_n 0, 1) := by decide +kernel
theorem dX2_fillFromRows_8 : decode cX2_fillFromRows 8 = .ok (.getfield 46, 3) := by decide +kernel
theorem dX2_fillFromRows_11 : decode cX2_fillFromRows 11 = .ok (.iload_n 2, 1) := by decide +kernel
theorem dX2_fillFromRows_12 : decode cX2_fillFromRows 12 = .ok (.aload_n 0, 1) := by decide +kernel
theorem dX2_fillFromRows_13 : decode cX2_fillFromRows 13 = .ok (.getfield 15, 3) := by decide +kernel
theorem dX2_fillFromRows_16 : decode cX2_fillFromRows 16 = .ok (.iload_n 1, 1) := by decide +kernel
theorem dX2_fillFromRows_17 : decode cX2_fillFromRows 17 = .ok (.iaload, 1) := by decide +kernel
theorem dX2_fillFromRows_18 : decode cX2_fillFromRows 18 = .ok (.iastore, 1) := by decide +kernel
theorem dX2_fillFromRows_19 : decode cX2_fillFromRows 19 = .ok (.iconst 0, 1) := by decide +kernel
theorem dX2_fillFromRows_20 : decode cX2_fillFromRows 20 = .ok (.istore_n 3, 1) := by decide +kernel
theorem dX2_fillFromRows_21 : decode cX2_fillFromRows 21 = .ok (.iload_n 3, 1) := by decide +kernel
theorem dX2_fillFromRows_22 : decode cX2_fillFromRows 22 = .ok (.aload_n 0, 1) := by decide +kernel
theorem dX2_fillFromRows_23 : decode cX2_fillFromRows 23 = .ok (.getfield 28, 3) := by decide +kernel
theorem dX2_fillFromRows_26 : decode cX2_fillFromRows 26 = .ok (.if_icmp .ge 62, 3) := by decide +kernel
theorem dX2_fillFromRows_29 : decode cX2_fillFromRows 29 = .ok (.aload_n 0, 1) := by decide +kernel
theorem dX2_fillFromRows_30 : decode cX2_fillFromRows 30 = .ok (.iload_n 1, 1) := by decide +kernel
theorem dX2_fillFromRows_31 : decode cX2_fillFromRows 31 = .ok (.iload_n 3, 1) := by decide +kernel
theorem dX2_fillFromRows_32 : decode cX2_fillFromRows 32 = .ok (.invokevirtual 59, 3) := by decide +kernel
theorem dX2_fillFromRows_35 : decode cX2_fillFromRows 35 = .ok (.istore 4, 2) := by decide +kernel
theorem dX2_fillFromRows_37 : decode cX2_fillFromRows 37 = .ok (.iconst 1, 1) := by decide +kernel
theorem dX2_fillFromRows_38 : decode cX2_fillFromRows 38 = .ok (.iload_n 3, 1) := by decide +kernel
theorem dX2_fillFromRows_39 : decode cX2_fillFromRows 39 = .ok (.ishl, 1) := by decide +kernel
theorem dX2_fillFromRows_40 : decode cX2_fillFromRows 40 = .ok (.istore 5, 2) := by decide +kernel
theorem dX2_fillFromRows_42 : decode cX2_fillFromRows 42 = .ok (.iconst 0, 1) := by decide +kernel
theorem dX2_fillFromRows_43 : decode cX2_fillFromRows 43 = .ok (.istore 6, 2) := by decide +kernel
theorem dX2_fillFromRows_45 : decode cX2_fillFromRows 45 = .ok (.iload 6, 2) := by decide +kernel
theorem dX2_fillFromRows_47 : decode cX2_fillFromRows 47 = .ok (.iload 5, 2) := by decide +kernel
theorem dX2_fillFromRows_49 : decode cX2_fillFromRows 49 = .ok (.if_icmp .ge 33, 3) := by decide +kernel
theorem dX2_fillFromRows_52 : decode cX2_fillFromRows 52 = .ok (.aload_n 0, 1) := by decide +kernel
theorem dX2_fillFromRows_53 : decode cX2_fillFromRows 53 = .ok (.getfield 46, 3) := by decide +kernel
theorem dX2_fillFromRows_56 : decode cX2_fillFromRows 56 = .ok (.iload_n 2, 1) := by decide +kernel
theorem dX2_fillFromRows_57 : decode cX2_fillFromRows 57 = .ok (.iload 5, 2) := by decide +kernel
theorem dX2_fillFromRows_59 : decode cX2_fillFromRows 59 = .ok (.iadd, 1) := by decide +kernel
theorem dX2_fillFromRows_60 : decode cX2_fillFromRows 60 = .ok (.iload 6, 2) := by decide +kernel
theorem dX2_fillFromRows_62 : decode cX2_fillFromRows 62 = .ok (.iadd, 1) := by decide +kernel
theorem dX2_fillFromRows_63 : decode cX2_fillFromRows 63 = .ok (.aload_n 0, 1) := by decide +kernel
theorem dX2_fillFromRows_64 : decode cX2_fillFromRows 64 = .ok (.getfield 46, 3) := by decide +kernel
theorem dX2_fillFromRows_67 : decode cX2_fillFromRows 67 = .ok (.iload_n 2, 1) := by decide +kernel
theorem dX2_fillFromRows_68 : decode cX2_fillFromRows 68 = .ok (.iload 6, 2) := by decide +kernel
theorem dX2_fillFromRows_70 : decode cX2_fillFromRows 70 = .ok (.iadd, 1) := by decide +kernel
theorem dX2_fillFromRows_71 : decode cX2_fillFromRows 71 = .ok (.iaload, 1) := by decide +kernel
theorem dX2_fillFromRows_72 : decode cX2_fillFromRows 72 = .ok (.iload 4, 2) := by decide +kernel
theorem dX2_fillFromRows_74 : decode cX2_fillFromRows 74 = .ok (.ixor, 1) := by decide +kernel
theorem dX2_fillFromRows_75 : decode cX2_fillFromRows 75 = .ok (.iastore, 1) := by decide +kernel
theorem dX2_fillFromRows_76 : decode cX2_fillFromRows 76 = .ok (.iinc 6 1, 3) := by decide +kernel
theorem dX2_fillFromRows_79 : decode cX2_fillFromRows 79 = .ok (.goto (-34), 3) := by decide +kernel
theorem dX2_fillFromRows_82 : decode cX2_fillFromRows 82 = .ok (.iinc 3 1, 3) := by decide +kernel
theorem dX2_fillFromRows_85 : decode cX2_fillFromRows 85 = .ok (.goto (-64), 3) := by decide +kernel
theorem dX2_fillFromRows_88 : decode cX2_fillFromRows 88 = .ok (.return_, 1) := by decide +kernel
theorem dX2_columnAt_0 : decode cX2_columnAt 0 = .ok (.iconst 0, 1) := by decide +kernel
theorem dX2_columnAt_1 : decode cX2_columnAt 1 = .ok (.istore_n 3, 1) := by decide +kernel
theorem dX2_columnAt_2 : decode cX2_columnAt 2 = .ok (.iconst 0, 1) := by decide +kernel
theorem dX2_columnAt_3 : decode cX2_columnAt 3 = .ok (.istore 4, 2) := by decide +kernel
theorem dX2_columnAt_5 : decode cX2_columnAt 5 = .ok (.iload 4, 2) := by decide +kernel
theorem dX2_columnAt_7 : decode cX2_columnAt 7 = .ok (.aload_n 0, 1) := by decide +kernel
theorem dX2_columnAt_8 : decode cX2_columnAt 8 = .ok (.getfield 28, 3) := by decide +kernel
theorem dX2_columnAt_11 : decode cX2_columnAt 11 = .ok (.if_icmp .ge 25, 3) := by decide +kernel
theorem dX2_columnAt_14 : decode cX2_columnAt 14 = .ok (.iconst 2, 1) := by decide +kernel
theorem dX2_columnAt_15 : decode cX2_columnAt 15 = .ok (.iload_n 3, 1) := by decide +kernel
theorem dX2_columnAt_16 : decode cX2_columnAt 16 = .ok (.imul, 1) := by decide +kernel
theorem dX2_columnAt_17 : decode cX2_columnAt 17 = .ok (.aload_n 0, 1) := by decide +kernel
theorem dX2_columnAt_18 : decode cX2_columnAt 18 = .ok (.iload_n 1, 1) := by decide +kernel
theorem dX2_columnAt_19 : decode cX2_columnAt 19 = .ok (.iload 4, 2) := by decide +kernel
theorem dX2_columnAt_21 : decode cX2_columnAt 21 = .ok (.invokevirtual 62, 3) := by decide +kernel
theorem dX2_columnAt_24 : decode cX2_columnAt 24 = .ok (.iload_n 2, 1) := by decide +kernel
theorem dX2_columnAt_25 : decode cX2_columnAt 25 = .ok (.ishr, 1) := by decide +kernel
theorem dX2_columnAt_26 : decode cX2_columnAt 26 = .ok (.iconst 1, 1) := by decide +kernel
theorem dX2_columnAt_27 : decode cX2_columnAt 27 = .ok (.iand, 1) := by decide +kernel
theorem dX2_columnAt_28 : decode cX2_columnAt 28 = .ok (.iadd, 1) := by decide +kernel
theorem dX2_columnAt_29 : decode cX2_columnAt 29 = .ok (.istore_n 3, 1) := by decide +kernel
theorem dX2_columnAt_30 : decode cX2_columnAt 30 = .ok (.iinc 4 1, 3) := by decide +kernel
theorem dX2_columnAt_33 : decode cX2_columnAt 33 = .ok (.goto (-28), 3) := by decide +kernel
theorem dX2_columnAt_36 : decode cX2_columnAt 36 = .ok (.iload_n 3, 1) := by decide +kernel
theorem dX2_columnAt_37 : decode cX2_columnAt 37 = .ok (.ireturn, 1) := by decide +kernel
theorem dX2_fillFromStep_0 : decode cX2_fillFromStep 0 = .ok (.iconst 0, 1) := by decide +kernel
theorem dX2_fillFromStep_1 : decode cX2_fillFromStep 1 = .ok (.istore_n 2, 1) := by decide +kernel
theorem dX2_fillFromStep_2 : decode cX2_fillFromStep 2 = .ok (.iload_n 2, 1) := by decide +kernel
theorem dX2_fillFromStep_3 : decode cX2_fillFromStep 3 = .ok (.aload_n 0, 1) := by decide +kernel
theorem dX2_fillFromStep_4 : decode cX2_fillFromStep 4 = .ok (.getfield 40, 3) := by decide +kernel
theorem dX2_fillFromStep_7 : decode cX2_fillFromStep 7 = .ok (.if_icmp .ge 35, 3) := by decide +kernel
theorem dX2_fillFromStep_10 : decode cX2_fillFromStep 10 = .ok (.aload_n 0, 1) := by decide +kernel
theorem dX2_fillFromStep_11 : decode cX2_fillFromStep 11 = .ok (.getfield 46, 3) := by decide +kernel
theorem dX2_fillFromStep_14 : decode cX2_fillFromStep 14 = .ok (.iload_n 1, 1) := by decide +kernel
theorem dX2_fillFromStep_15 : decode cX2_fillFromStep 15 = .ok (.aload_n 0, 1) := by decide +kernel
theorem dX2_fillFromStep_16 : decode cX2_fillFromStep 16 = .ok (.getfield 40, 3) := by decide +kernel
theorem dX2_fillFromStep_19 : decode cX2_fillFromStep 19 = .ok (.imul, 1) := by decide +kernel
theorem dX2_fillFromStep_20 : decode cX2_fillFromStep 20 = .ok (.iload_n 2, 1) := by decide +kernel
theorem dX2_fillFromStep_21 : decode cX2_fillFromStep 21 = .ok (.iadd, 1) := by decide +kernel
theorem dX2_fillFromStep_22 : decode cX2_fillFromStep 22 = .ok (.iload_n 2, 1) := by decide +kernel
theorem dX2_fillFromStep_23 : decode cX2_fillFromStep 23 = .ok (.aload_n 0, 1) := by decide +kernel
theorem dX2_fillFromStep_24 : decode cX2_fillFromStep 24 = .ok (.getfield 18, 3) := by decide +kernel
theorem dX2_fillFromStep_27 : decode cX2_fillFromStep 27 = .ok (.iload_n 1, 1) := by decide +kernel
theorem dX2_fillFromStep_28 : decode cX2_fillFromStep 28 = .ok (.iaload, 1) := by decide +kernel
theorem dX2_fillFromStep_29 : decode cX2_fillFromStep 29 = .ok (.imul, 1) := by decide +kernel
theorem dX2_fillFromStep_30 : decode cX2_fillFromStep 30 = .ok (.aload_n 0, 1) := by decide +kernel
theorem dX2_fillFromStep_31 : decode cX2_fillFromStep 31 = .ok (.getfield 40, 3) := by decide +kernel
theorem dX2_fillFromStep_34 : decode cX2_fillFromStep 34 = .ok (.irem, 1) := by decide +kernel
theorem dX2_fillFromStep_35 : decode cX2_fillFromStep 35 = .ok (.iastore, 1) := by decide +kernel
theorem dX2_fillFromStep_36 : decode cX2_fillFromStep 36 = .ok (.iinc 2 1, 3) := by decide +kernel
theorem dX2_fillFromStep_39 : decode cX2_fillFromStep 39 = .ok (.goto (-37), 3) := by decide +kernel
theorem dX2_fillFromStep_42 : decode cX2_fillFromStep 42 = .ok (.return_, 1) := by decide +kernel
theorem dX2_fillFromSeed_0 : decode cX2_fillFromSeed 0 = .ok (.lload_n 1, 1) := by decide +kernel
theorem dX2_fillFromSeed_1 : decode cX2_fillFromSeed 1 = .ok (.lstore_n 3, 1) := by decide +kernel
theorem dX2_fillFromSeed_2 : decode cX2_fillFromSeed 2 = .ok (.iconst 0, 1) := by decide +kernel
theorem dX2_fillFromSeed_3 : decode cX2_fillFromSeed 3 = .ok (.istore 5, 2) := by decide +kernel
theorem dX2_fillFromSeed_5 : decode cX2_fillFromSeed 5 = .ok (.iload 5, 2) := by decide +kernel
theorem dX2_fillFromSeed_7 : decode cX2_fillFromSeed 7 = .ok (.aload_n 0, 1) := by decide +kernel
theorem dX2_fillFromSeed_8 : decode cX2_fillFromSeed 8 = .ok (.getfield 40, 3) := by decide +kernel
theorem dX2_fillFromSeed_11 : decode cX2_fillFromSeed 11 = .ok (.if_icmp .ge 64, 3) := by decide +kernel
theorem dX2_fillFromSeed_14 : decode cX2_fillFromSeed 14 = .ok (.iconst 0, 1) := by decide +kernel
theorem dX2_fillFromSeed_15 : decode cX2_fillFromSeed 15 = .ok (.istore 6, 2) := by decide +kernel
theorem dX2_fillFromSeed_17 : decode cX2_fillFromSeed 17 = .ok (.iload 6, 2) := by decide +kernel
theorem dX2_fillFromSeed_19 : decode cX2_fillFromSeed 19 = .ok (.aload_n 0, 1) := by decide +kernel
theorem dX2_fillFromSeed_20 : decode cX2_fillFromSeed 20 = .ok (.getfield 25, 3) := by decide +kernel
theorem dX2_fillFromSeed_23 : decode cX2_fillFromSeed 23 = .ok (.if_icmp .ge 46, 3) := by decide +kernel
theorem dX2_fillFromSeed_26 : decode cX2_fillFromSeed 26 = .ok (.lload_n 3, 1) := by decide +kernel
theorem dX2_fillFromSeed_27 : decode cX2_fillFromSeed 27 = .ok (.ldc2_w 65, 3) := by decide +kernel
theorem dX2_fillFromSeed_30 : decode cX2_fillFromSeed 30 = .ok (.lmul, 1) := by decide +kernel
theorem dX2_fillFromSeed_31 : decode cX2_fillFromSeed 31 = .ok (.ldc2_w 67, 3) := by decide +kernel
theorem dX2_fillFromSeed_34 : decode cX2_fillFromSeed 34 = .ok (.ladd, 1) := by decide +kernel
theorem dX2_fillFromSeed_35 : decode cX2_fillFromSeed 35 = .ok (.lstore_n 3, 1) := by decide +kernel
theorem dX2_fillFromSeed_36 : decode cX2_fillFromSeed 36 = .ok (.aload_n 0, 1) := by decide +kernel
theorem dX2_fillFromSeed_37 : decode cX2_fillFromSeed 37 = .ok (.getfield 46, 3) := by decide +kernel
theorem dX2_fillFromSeed_40 : decode cX2_fillFromSeed 40 = .ok (.iload 6, 2) := by decide +kernel
theorem dX2_fillFromSeed_42 : decode cX2_fillFromSeed 42 = .ok (.aload_n 0, 1) := by decide +kernel
theorem dX2_fillFromSeed_43 : decode cX2_fillFromSeed 43 = .ok (.getfield 40, 3) := by decide +kernel
theorem dX2_fillFromSeed_46 : decode cX2_fillFromSeed 46 = .ok (.imul, 1) := by decide +kernel
theorem dX2_fillFromSeed_47 : decode cX2_fillFromSeed 47 = .ok (.iload 5, 2) := by decide +kernel
theorem dX2_fillFromSeed_49 : decode cX2_fillFromSeed 49 = .ok (.iadd, 1) := by decide +kernel
theorem dX2_fillFromSeed_50 : decode cX2_fillFromSeed 50 = .ok (.lload_n 3, 1) := by decide +kernel
theorem dX2_fillFromSeed_51 : decode cX2_fillFromSeed 51 = .ok (.iconst 1, 1) := by decide +kernel
theorem dX2_fillFromSeed_52 : decode cX2_fillFromSeed 52 = .ok (.lushr, 1) := by decide +kernel
theorem dX2_fillFromSeed_53 : decode cX2_fillFromSeed 53 = .ok (.bipush 63, 2) := by decide +kernel
theorem dX2_fillFromSeed_55 : decode cX2_fillFromSeed 55 = .ok (.aload_n 0, 1) := by decide +kernel
theorem dX2_fillFromSeed_56 : decode cX2_fillFromSeed 56 = .ok (.getfield 28, 3) := by decide +kernel
theorem dX2_fillFromSeed_59 : decode cX2_fillFromSeed 59 = .ok (.isub, 1) := by decide +kernel
theorem dX2_fillFromSeed_60 : decode cX2_fillFromSeed 60 = .ok (.lushr, 1) := by decide +kernel
theorem dX2_fillFromSeed_61 : decode cX2_fillFromSeed 61 = .ok (.l2i, 1) := by decide +kernel
theorem dX2_fillFromSeed_62 : decode cX2_fillFromSeed 62 = .ok (.iastore, 1) := by decide +kernel
theorem dX2_fillFromSeed_63 : decode cX2_fillFromSeed 63 = .ok (.iinc 6 1, 3) := by decide +kernel
theorem dX2_fillFromSeed_66 : decode cX2_fillFromSeed 66 = .ok (.goto (-49), 3) := by decide +kernel
theorem dX2_fillFromSeed_69 : decode cX2_fillFromSeed 69 = .ok (.iinc 5 1, 3) := by decide +kernel
theorem dX2_fillFromSeed_72 : decode cX2_fillFromSeed 72 = .ok (.goto (-67), 3) := by decide +kernel
theorem dX2_fillFromSeed_75 : decode cX2_fillFromSeed 75 = .ok (.return_, 1) := by decide +kernel
theorem dX2_addRung_0 : decode cX2_addRung 0 = .ok (.aload_n 0, 1) := by decide +kernel
theorem dX2_addRung_1 : decode cX2_addRung 1 = .ok (.getfield 25, 3) := by decide +kernel
theorem dX2_addRung_4 : decode cX2_addRung 4 = .ok (.istore 5, 2) := by decide +kernel
theorem dX2_addRung_6 : decode cX2_addRung 6 = .ok (.iload_n 1, 1) := by decide +kernel
theorem dX2_addRung_7 : decode cX2_addRung 7 = .ok (.iload_n 2, 1) := by decide +kernel
theorem dX2_addRung_8 : decode cX2_addRung 8 = .ok (.lload_n 3, 1) := by decide +kernel
theorem dX2_addRung_9 : decode cX2_addRung 9 = .ok (.invokestatic 69, 3) := by decide +kernel
theorem dX2_addRung_12 : decode cX2_addRung 12 = .ok (.astore 6, 2) := by decide +kernel
theorem dX2_addRung_14 : decode cX2_addRung 14 = .ok (.iconst 0, 1) := by decide +kernel
theorem dX2_addRung_15 : decode cX2_addRung 15 = .ok (.istore 7, 2) := by decide +kernel
theorem dX2_addRung_17 : decode cX2_addRung 17 = .ok (.iload 7, 2) := by decide +kernel
theorem dX2_addRung_19 : decode cX2_addRung 19 = .ok (.aload_n 0, 1) := by decide +kernel
theorem dX2_addRung_20 : decode cX2_addRung 20 = .ok (.getfield 28, 3) := by decide +kernel
theorem dX2_addRung_23 : decode cX2_addRung 23 = .ok (.if_icmp .ge 68, 3) := by decide +kernel
theorem dX2_addRung_26 : decode cX2_addRung 26 = .ok (.iconst 0, 1) := by decide +kernel
theorem dX2_addRung_27 : decode cX2_addRung 27 = .ok (.istore 8, 2) := by decide +kernel
theorem dX2_addRung_29 : decode cX2_addRung 29 = .ok (.iload 7, 2) := by decide +kernel
theorem dX2_addRung_31 : decode cX2_addRung 31 = .ok (.iconst 1, 1) := by decide +kernel
theorem dX2_addRung_32 : decode cX2_addRung 32 = .ok (.iadd, 1) := by decide +kernel
theorem dX2_addRung_33 : decode cX2_addRung 33 = .ok (.istore 9, 2) := by decide +kernel
theorem dX2_addRung_35 : decode cX2_addRung 35 = .ok (.iload 9, 2) := by decide +kernel
theorem dX2_addRung_37 : decode cX2_addRung 37 = .ok (.aload_n 0, 1) := by decide +kernel
theorem dX2_addRung_38 : decode cX2_addRung 38 = .ok (.getfield 28, 3) := by decide +kernel
theorem dX2_addRung_41 : decode cX2_addRung 41 = .ok (.if_icmp .gt 34, 3) := by decide +kernel
theorem dX2_addRung_44 : decode cX2_addRung 44 = .ok (.iload 8, 2) := by decide +kernel
theorem dX2_addRung_46 : decode cX2_addRung 46 = .ok (.aload 6, 2) := by decide +kernel
theorem dX2_addRung_48 : decode cX2_addRung 48 = .ok (.iload 9, 2) := by decide +kernel
theorem dX2_addRung_50 : decode cX2_addRung 50 = .ok (.iaload, 1) := by decide +kernel
theorem dX2_addRung_51 : decode cX2_addRung 51 = .ok (.iload 9, 2) := by decide +kernel
theorem dX2_addRung_53 : decode cX2_addRung 53 = .ok (.iconst 1, 1) := by decide +kernel
theorem dX2_addRung_54 : decode cX2_addRung 54 = .ok (.isub, 1) := by decide +kernel
theorem dX2_addRung_55 : decode cX2_addRung 55 = .ok (.iload 7, 2) := by decide +kernel
theorem dX2_addRung_57 : decode cX2_addRung 57 = .ok (.isub, 1) := by decide +kernel
theorem dX2_addRung_58 : decode cX2_addRung 58 = .ok (.ishr, 1) := by decide +kernel
theorem dX2_addRung_59 : decode cX2_addRung 59 = .ok (.iconst 1, 1) := by decide +kernel
theorem dX2_addRung_60 : decode cX2_addRung 60 = .ok (.iand, 1) := by decide +kernel
theorem dX2_addRung_61 : decode cX2_addRung 61 = .ok (.iload 9, 2) := by decide +kernel
theorem dX2_addRung_63 : decode cX2_addRung 63 = .ok (.iconst 1, 1) := by decide +kernel
theorem dX2_addRung_64 : decode cX2_addRung 64 = .ok (.isub, 1) := by decide +kernel
theorem dX2_addRung_65 : decode cX2_addRung 65 = .ok (.ishl, 1) := by decide +kernel
theorem dX2_addRung_66 : decode cX2_addRung 66 = .ok (.ior, 1) := by decide +kernel
theorem dX2_addRung_67 : decode cX2_addRung 67 = .ok (.istore 8, 2) := by decide +kernel
theorem dX2_addRung_69 : decode cX2_addRung 69 = .ok (.iinc 9 1, 3) := by decide +kernel
theorem dX2_addRung_72 : decode cX2_addRung 72 = .ok (.goto (-37), 3) := by decide +kernel
theorem dX2_addRung_75 : decode cX2_addRung 75 = .ok (.aload_n 0, 1) := by decide +kernel
theorem dX2_addRung_76 : decode cX2_addRung 76 = .ok (.iload 5, 2) := by decide +kernel
theorem dX2_addRung_78 : decode cX2_addRung 78 = .ok (.iload 7, 2) := by decide +kernel
theorem dX2_addRung_80 : decode cX2_addRung 80 = .ok (.iload 8, 2) := by decide +kernel
theorem dX2_addRung_82 : decode cX2_addRung 82 = .ok (.invokevirtual 73, 3) := by decide +kernel
theorem dX2_addRung_85 : decode cX2_addRung 85 = .ok (.iinc 7 1, 3) := by decide +kernel
theorem dX2_addRung_88 : decode cX2_addRung 88 = .ok (.goto (-71), 3) := by decide +kernel
theorem dX2_addRung_91 : decode cX2_addRung 91 = .ok (.aload_n 0, 1) := by decide +kernel
theorem dX2_addRung_92 : decode cX2_addRung 92 = .ok (.dup, 1) := by decide +kernel
theorem dX2_addRung_93 : decode cX2_addRung 93 = .ok (.getfield 25, 3) := by decide +kernel
theorem dX2_addRung_96 : decode cX2_addRung 96 = .ok (.iconst 1, 1) := by decide +kernel
theorem dX2_addRung_97 : decode cX2_addRung 97 = .ok (.iadd, 1) := by decide +kernel
theorem dX2_addRung_98 : decode cX2_addRung 98 = .ok (.putfield 25, 3) := by decide +kernel
theorem dX2_addRung_101 : decode cX2_addRung 101 = .ok (.aload_n 0, 1) := by decide +kernel
theorem dX2_addRung_102 : decode cX2_addRung 102 = .ok (.iload 5, 2) := by decide +kernel
theorem dX2_addRung_104 : decode cX2_addRung 104 = .ok (.invokevirtual 55, 3) := by decide +kernel
theorem dX2_addRung_107 : decode cX2_addRung 107 = .ok (.return_, 1) := by decide +kernel
theorem dX2_rungNumbers_0 : decode cX2_rungNumbers 0 = .ok (.bipush 9, 2) := by decide +kernel
theorem dX2_rungNumbers_2 : decode cX2_rungNumbers 2 = .ok (.newarray .int, 2) := by decide +kernel
theorem dX2_rungNumbers_4 : decode cX2_rungNumbers 4 = .ok (.astore 4, 2) := by decide +kernel
theorem dX2_rungNumbers_6 : decode cX2_rungNumbers 6 = .ok (.iconst 1, 1) := by decide +kernel
theorem dX2_rungNumbers_7 : decode cX2_rungNumbers 7 = .ok (.istore 5, 2) := by decide +kernel
theorem dX2_rungNumbers_9 : decode cX2_rungNumbers 9 = .ok (.iload 5, 2) := by decide +kernel
theorem dX2_rungNumbers_11 : decode cX2_rungNumbers 11 = .ok (.bipush 8, 2) := by decide +kernel
theorem dX2_rungNumbers_13 : decode cX2_rungNumbers 13 = .ok (.if_icmp .gt 94, 3) := by decide +kernel
theorem dX2_rungNumbers_16 : decode cX2_rungNumbers 16 = .ok (.iload 5, 2) := by decide +kernel
theorem dX2_rungNumbers_18 : decode cX2_rungNumbers 18 = .ok (.iload_n 1, 1) := by decide +kernel
theorem dX2_rungNumbers_19 : decode cX2_rungNumbers 19 = .ok (.if_icmp .gt 17, 3) := by decide +kernel
theorem dX2_rungNumbers_22 : decode cX2_rungNumbers 22 = .ok (.aload 4, 2) := by decide +kernel
theorem dX2_rungNumbers_24 : decode cX2_rungNumbers 24 = .ok (.iload 5, 2) := by decide +kernel
theorem dX2_rungNumbers_26 : decode cX2_rungNumbers 26 = .ok (.lload_n 2, 1) := by decide +kernel
theorem dX2_rungNumbers_27 : decode cX2_rungNumbers 27 = .ok (.iload 5, 2) := by decide +kernel
theorem dX2_rungNumbers_29 : decode cX2_rungNumbers 29 = .ok (.invokestatic 77, 3) := by decide +kernel
theorem dX2_rungNumbers_32 : decode cX2_rungNumbers 32 = .ok (.iastore, 1) := by decide +kernel
theorem dX2_rungNumbers_33 : decode cX2_rungNumbers 33 = .ok (.goto 68, 3) := by decide +kernel
theorem dX2_rungNumbers_36 : decode cX2_rungNumbers 36 = .ok (.aload 4, 2) := by decide +kernel
theorem dX2_rungNumbers_38 : decode cX2_rungNumbers 38 = .ok (.iload 5, 2) := by decide +kernel
theorem dX2_rungNumbers_40 : decode cX2_rungNumbers 40 = .ok (.iload_n 1, 1) := by decide +kernel
theorem dX2_rungNumbers_41 : decode cX2_rungNumbers 41 = .ok (.isub, 1) := by decide +kernel
theorem dX2_rungNumbers_42 : decode cX2_rungNumbers 42 = .ok (.iaload, 1) := by decide +kernel
theorem dX2_rungNumbers_43 : decode cX2_rungNumbers 43 = .ok (.istore 6, 2) := by decide +kernel
theorem dX2_rungNumbers_45 : decode cX2_rungNumbers 45 = .ok (.iload 6, 2) := by decide +kernel
theorem dX2_rungNumbers_47 : decode cX2_rungNumbers 47 = .ok (.iload 6, 2) := by decide +kernel
theorem dX2_rungNumbers_49 : decode cX2_rungNumbers 49 = .ok (.iload_n 1, 1) := by decide +kernel
theorem dX2_rungNumbers_50 : decode cX2_rungNumbers 50 = .ok (.ishl, 1) := by decide +kernel
theorem dX2_rungNumbers_51 : decode cX2_rungNumbers 51 = .ok (.ixor, 1) := by decide +kernel
theorem dX2_rungNumbers_52 : decode cX2_rungNumbers 52 = .ok (.istore 7, 2) := by decide +kernel
theorem dX2_rungNumbers_54 : decode cX2_rungNumbers 54 = .ok (.iconst 1, 1) := by decide +kernel
theorem dX2_rungNumbers_55 : decode cX2_rungNumbers 55 = .ok (.istore 8, 2) := by decide +kernel
theorem dX2_rungNumbers_57 : decode cX2_rungNumbers 57 = .ok (.iload 8, 2) := by decide +kernel
theorem dX2_rungNumbers_59 : decode cX2_rungNumbers 59 = .ok (.iload_n 1, 1) := by decide +kernel
theorem dX2_rungNumbers_60 : decode cX2_rungNumbers 60 = .ok (.if_icmp .ge 34, 3) := by decide +kernel
theorem dX2_rungNumbers_63 : decode cX2_rungNumbers 63 = .ok (.iload 7, 2) := by decide +kernel
theorem dX2_rungNumbers_65 : decode cX2_rungNumbers 65 = .ok (.iload_n 0, 1) := by decide +kernel
theorem dX2_rungNumbers_66 : decode cX2_rungNumbers 66 = .ok (.iload_n 1, 1) := by decide +kernel
theorem dX2_rungNumbers_67 : decode cX2_rungNumbers 67 = .ok (.iload 8, 2) := by decide +kernel
theorem dX2_rungNumbers_69 : decode cX2_rungNumbers 69 = .ok (.isub, 1) := by decide +kernel
theorem dX2_rungNumbers_70 : decode cX2_rungNumbers 70 = .ok (.ishr, 1) := by decide +kernel
theorem dX2_rungNumbers_71 : decode cX2_rungNumbers 71 = .ok (.iconst 1, 1) := by decide +kernel
theorem dX2_rungNumbers_72 : decode cX2_rungNumbers 72 = .ok (.iand, 1) := by decide +kernel
theorem dX2_rungNumbers_73 : decode cX2_rungNumbers 73 = .ok (.aload 4, 2) := by decide +kernel
theorem dX2_rungNumbers_75 : decode cX2_rungNumbers 75 = .ok (.iload 5, 2) := by decide +kernel
theorem dX2_rungNumbers_77 : decode cX2_rungNumbers 77 = .ok (.iload 8, 2) := by decide +kernel
theorem dX2_rungNumbers_79 : decode cX2_rungNumbers 79 = .ok (.isub, 1) := by decide +kernel
theorem dX2_rungNumbers_80 : decode cX2_rungNumbers 80 = .ok (.iaload, 1) := by decide +kernel
theorem dX2_rungNumbers_81 : decode cX2_rungNumbers 81 = .ok (.iload 8, 2) := by decide +kernel
theorem dX2_rungNumbers_83 : decode cX2_rungNumbers 83 = .ok (.ishl, 1) := by decide +kernel
theorem dX2_rungNumbers_84 : decode cX2_rungNumbers 84 = .ok (.imul, 1) := by decide +kernel
theorem dX2_rungNumbers_85 : decode cX2_rungNumbers 85 = .ok (.ixor, 1) := by decide +kernel
theorem dX2_rungNumbers_86 : decode cX2_rungNumbers 86 = .ok (.istore 7, 2) := by decide +kernel
theorem dX2_rungNumbers_88 : decode cX2_rungNumbers 88 = .ok (.iinc 8 1, 3) := by decide +kernel
theorem dX2_rungNumbers_91 : decode cX2_rungNumbers 91 = .ok (.goto (-34), 3) := by decide +kernel
theorem dX2_rungNumbers_94 : decode cX2_rungNumbers 94 = .ok (.aload 4, 2) := by decide +kernel
theorem dX2_rungNumbers_96 : decode cX2_rungNumbers 96 = .ok (.iload 5, 2) := by decide +kernel
theorem dX2_rungNumbers_98 : decode cX2_rungNumbers 98 = .ok (.iload 7, 2) := by decide +kernel
theorem dX2_rungNumbers_100 : decode cX2_rungNumbers 100 = .ok (.iastore, 1) := by decide +kernel
theorem dX2_rungNumbers_101 : decode cX2_rungNumbers 101 = .ok (.iinc 5 1, 3) := by decide +kernel
theorem dX2_rungNumbers_104 : decode cX2_rungNumbers 104 = .ok (.goto (-95), 3) := by decide +kernel
theorem dX2_rungNumbers_107 : decode cX2_rungNumbers 107 = .ok (.aload 4, 2) := by decide +kernel
theorem dX2_rungNumbers_109 : decode cX2_rungNumbers 109 = .ok (.areturn, 1) := by decide +kernel
theorem dX3_init_0 : decode cX3_init 0 = .ok (.aload_n 0, 1) := by decide +kernel
theorem dX3_init_1 : decode cX3_init 1 = .ok (.invokespecial 3, 3) := by decide +kernel
theorem dX3_init_4 : decode cX3_init 4 = .ok (.aload_n 0, 1) := by decide +kernel
theorem dX3_init_5 : decode cX3_init 5 = .ok (.bipush 6, 2) := by decide +kernel
theorem dX3_init_7 : decode cX3_init 7 = .ok (.newarray .int, 2) := by decide +kernel
theorem dX3_init_9 : decode cX3_init 9 = .ok (.putfield 9, 3) := by decide +kernel
theorem dX3_init_12 : decode cX3_init 12 = .ok (.aload_n 0, 1) := by decide +kernel
theorem dX3_init_13 : decode cX3_init 13 = .ok (.bipush 6, 2) := by decide +kernel
theorem dX3_init_15 : decode cX3_init 15 = .ok (.newarray .int, 2) := by decide +kernel
theorem dX3_init_17 : decode cX3_init 17 = .ok (.putfield 15, 3) := by decide +kernel
theorem dX3_init_20 : decode cX3_init 20 = .ok (.aload_n 0, 1) := by decide +kernel
theorem dX3_init_21 : decode cX3_init 21 = .ok (.bipush 6, 2) := by decide +kernel
theorem dX3_init_23 : decode cX3_init 23 = .ok (.newarray .int, 2) := by decide +kernel
theorem dX3_init_25 : decode cX3_init 25 = .ok (.putfield 18, 3) := by decide +kernel
theorem dX3_init_28 : decode cX3_init 28 = .ok (.return_, 1) := by decide +kernel
theorem dX3_boxHas_0 : decode cX3_boxHas 0 = .ok (.iconst 0, 1) := by decide +kernel
theorem dX3_boxHas_1 : decode cX3_boxHas 1 = .ok (.istore_n 3, 1) := by decide +kernel
theorem dX3_boxHas_2 : decode cX3_boxHas 2 = .ok (.iload_n 3, 1) := by decide +kernel
theorem dX3_boxHas_3 : decode cX3_boxHas 3 = .ok (.aload_n 1, 1) := by decide +kernel
theorem dX3_boxHas_4 : decode cX3_boxHas 4 = .ok (.getfield 21, 3) := by decide +kernel
theorem dX3_boxHas_7 : decode cX3_boxHas 7 = .ok (.if_icmp .ge 41, 3) := by decide +kernel
theorem dX3_boxHas_10 : decode cX3_boxHas 10 = .ok (.aload_n 1, 1) := by decide +kernel
theorem dX3_boxHas_11 : decode cX3_boxHas 11 = .ok (.iload_n 2, 1) := by decide +kernel
theorem dX3_boxHas_12 : decode cX3_boxHas 12 = .ok (.iload_n 3, 1) := by decide +kernel
theorem dX3_boxHas_13 : decode cX3_boxHas 13 = .ok (.invokevirtual 27, 3) := by decide +kernel
theorem dX3_boxHas_16 : decode cX3_boxHas 16 = .ok (.istore 4, 2) := by decide +kernel
theorem dX3_boxHas_18 : decode cX3_boxHas 18 = .ok (.iload 4, 2) := by decide +kernel
theorem dX3_boxHas_20 : decode cX3_boxHas 20 = .ok (.aload_n 0, 1) := by decide +kernel
theorem dX3_boxHas_21 : decode cX3_boxHas 21 = .ok (.getfield 9, 3) := by decide +kernel
theorem dX3_boxHas_24 : decode cX3_boxHas 24 = .ok (.iload_n 3, 1) := by decide +kernel
theorem dX3_boxHas_25 : decode cX3_boxHas 25 = .ok (.iaload, 1) := by decide +kernel
theorem dX3_boxHas_26 : decode cX3_boxHas 26 = .ok (.if_icmp .lt 14, 3) := by decide +kernel
theorem dX3_boxHas_29 : decode cX3_boxHas 29 = .ok (.iload 4, 2) := by decide +kernel
theorem dX3_boxHas_31 : decode cX3_boxHas 31 = .ok (.aload_n 0, 1) := by decide +kernel
theorem dX3_boxHas_32 : decode cX3_boxHas 32 = .ok (.getfield 15, 3) := by decide +kernel
theorem dX3_boxHas_35 : decode cX3_boxHas 35 = .ok (.iload_n 3, 1) := by decide +kernel
theorem dX3_boxHas_36 : decode cX3_boxHas 36 = .ok (.iaload, 1) := by decide +kernel
theorem dX3_boxHas_37 : decode cX3_boxHas 37 = .ok (.if_icmp .lt 5, 3) := by decide +kernel
theorem dX3_boxHas_40 : decode cX3_boxHas 40 = .ok (.iconst 0, 1) := by decide +kernel
theorem dX3_boxHas_41 : decode cX3_boxHas 41 = .ok (.ireturn, 1) := by decide +kernel
theorem dX3_boxHas_42 : decode cX3_boxHas 42 = .ok (.iinc 3 1, 3) := by decide +kernel
theorem dX3_boxHas_45 : decode cX3_boxHas 45 = .ok (.goto (-43), 3) := by decide +kernel
theorem dX3_boxHas_48 : decode cX3_boxHas 48 = .ok (.iconst 1, 1) := by decide +kernel
theorem dX3_boxHas_49 : decode cX3_boxHas 49 = .ok (.ireturn, 1) := by decide +kernel
theorem dX3_cornerHas_0 : decode cX3_cornerHas 0 = .ok (.iconst 0, 1) := by decide +kernel
theorem dX3_cornerHas_1 : decode cX3_cornerHas 1 = .ok (.istore 4, 2) := by decide +kernel
theorem dX3_cornerHas_3 : decode cX3_cornerHas 3 = .ok (.iload 4, 2) := by decide +kernel
theorem dX3_cornerHas_5 : decode cX3_cornerHas 5 = .ok (.aload_n 1, 1) := by decide +kernel
theorem dX3_cornerHas_6 : decode cX3_cornerHas 6 = .ok (.getfield 21, 3) := by decide +kernel
theorem dX3_cornerHas_9 : decode cX3_cornerHas 9 = .ok (.if_icmp .ge 48, 3) := by decide +kernel
theorem dX3_cornerHas_12 : decode cX3_cornerHas 12 = .ok (.aload_n 1, 1) := by decide +kernel
theorem dX3_cornerHas_13 : decode cX3_cornerHas 13 = .ok (.iload_n 2, 1) := by decide +kernel
theorem dX3_cornerHas_14 : decode cX3_cornerHas 14 = .ok (.iload 4, 2) := by decide +kernel
theorem dX3_cornerHas_16 : decode cX3_cornerHas 16 = .ok (.invokevirtual 27, 3) := by decide +kernel
theorem dX3_cornerHas_19 : decode cX3_cornerHas 19 = .ok (.istore 5, 2) := by decide +kernel
theorem dX3_cornerHas_21 : decode cX3_cornerHas 21 = .ok (.iload 5, 2) := by decide +kernel
theorem dX3_cornerHas_23 : decode cX3_cornerHas 23 = .ok (.aload_n 0, 1) := by decide +kernel
theorem dX3_cornerHas_24 : decode cX3_cornerHas 24 = .ok (.getfield 15, 3) := by decide +kernel
theorem dX3_cornerHas_27 : decode cX3_cornerHas 27 = .ok (.iload 4, 2) := by decide +kernel
theorem dX3_cornerHas_29 : decode cX3_cornerHas 29 = .ok (.iaload, 1) := by decide +kernel
theorem dX3_cornerHas_30 : decode cX3_cornerHas 30 = .ok (.if_icmp .gt 19, 3) := by decide +kernel
theorem dX3_cornerHas_33 : decode cX3_cornerHas 33 = .ok (.iload 5, 2) := by decide +kernel
theorem dX3_cornerHas_35 : decode cX3_cornerHas 35 = .ok (.aload_n 0, 1) := by decide +kernel
theorem dX3_cornerHas_36 : decode cX3_cornerHas 36 = .ok (.getfield 15, 3) := by decide +kernel
theorem dX3_cornerHas_39 : decode cX3_cornerHas 39 = .ok (.iload 4, 2) := by decide +kernel
theorem dX3_cornerHas_41 : decode cX3_cornerHas 41 = .ok (.iaload, 1) := by decide +kernel
theorem dX3_cornerHas_42 : decode cX3_cornerHas 42 = .ok (.if_icmp .ne 9, 3) := by decide +kernel
theorem dX3_cornerHas_45 : decode cX3_cornerHas 45 = .ok (.iload_n 3, 1) := by decide +kernel
theorem dX3_cornerHas_46 : decode cX3_cornerHas 46 = .ok (.ifCond .ne 5, 3) := by decide +kernel
theorem dX3_cornerHas_49 : decode cX3_cornerHas 49 = .ok (.iconst 0, 1) := by decide +kernel
theorem dX3_cornerHas_50 : decode cX3_cornerHas 50 = .ok (.ireturn, 1) := by decide +kernel
theorem dX3_cornerHas_51 : decode cX3_cornerHas 51 = .ok (.iinc 4 1, 3) := by decide +kernel
theorem dX3_cornerHas_54 : decode cX3_cornerHas 54 = .ok (.goto (-51), 3) := by decide +kernel
theorem dX3_cornerHas_57 : decode cX3_cornerHas 57 = .ok (.iconst 1, 1) := by decide +kernel
theorem dX3_cornerHas_58 : decode cX3_cornerHas 58 = .ok (.ireturn, 1) := by decide +kernel
theorem dX3_marksAreParts_0 : decode cX3_marksAreParts 0 = .ok (.iconst 0, 1) := by decide +kernel
theorem dX3_marksAreParts_1 : decode cX3_marksAreParts 1 = .ok (.istore_n 3, 1) := by decide +kernel
theorem dX3_marksAreParts_2 : decode cX3_marksAreParts 2 = .ok (.iload_n 3, 1) := by decide +kernel
theorem dX3_marksAreParts_3 : decode cX3_marksAreParts 3 = .ok (.aload_n 1, 1) := by decide +kernel
theorem dX3_marksAreParts_4 : decode cX3_marksAreParts 4 = .ok (.getfield 21, 3) := by decide +kernel
theorem dX3_marksAreParts_7 : decode cX3_marksAreParts 7 = .ok (.if_icmp .ge 26, 3) := by decide +kernel
theorem dX3_marksAreParts_10 : decode cX3_marksAreParts 10 = .ok (.aload_n 1, 1) := by decide +kernel
theorem dX3_marksAreParts_11 : decode cX3_marksAreParts 11 = .ok (.iload_n 2, 1) := by decide +kernel
theorem dX3_marksAreParts_12 : decode cX3_marksAreParts 12 = .ok (.iload_n 3, 1) := by decide +kernel
theorem dX3_marksAreParts_13 : decode cX3_marksAreParts 13 = .ok (.invokevirtual 27, 3) := by decide +kernel
theorem dX3_marksAreParts_16 : decode cX3_marksAreParts 16 = .ok (.aload_n 0, 1) := by decide +kernel
theorem dX3_marksAreParts_17 : decode cX3_marksAreParts 17 = .ok (.getfield 18, 3) := by decide +kernel
theorem dX3_marksAreParts_20 : decode cX3_marksAreParts 20 = .ok (.iload_n 3, 1) := by decide +kernel
theorem dX3_marksAreParts_21 : decode cX3_marksAreParts 21 = .ok (.iaload, 1) := by decide +kernel
theorem dX3_marksAreParts_22 : decode cX3_marksAreParts 22 = .ok (.if_icmp .eq 5, 3) := by decide +kernel
theorem dX3_marksAreParts_25 : decode cX3_marksAreParts 25 = .ok (.iconst 0, 1) := by decide +kernel
theorem dX3_marksAreParts_26 : decode cX3_marksAreParts 26 = .ok (.ireturn, 1) := by decide +kernel
theorem dX3_marksAreParts_27 : decode cX3_marksAreParts 27 = .ok (.iinc 3 1, 3) := by decide +kernel
theorem dX3_marksAreParts_30 : decode cX3_marksAreParts 30 = .ok (.goto (-28), 3) := by decide +kernel
theorem dX3_marksAreParts_33 : decode cX3_marksAreParts 33 = .ok (.iconst 1, 1) := by decide +kernel
theorem dX3_marksAreParts_34 : decode cX3_marksAreParts 34 = .ok (.ireturn, 1) := by decide +kernel
theorem dX3_highsMayBe_0 : decode cX3_highsMayBe 0 = .ok (.iconst 0, 1) := by decide +kernel
theorem dX3_highsMayBe_1 : decode cX3_highsMayBe 1 = .ok (.istore_n 2, 1) := by decide +kernel
theorem dX3_highsMayBe_2 : decode cX3_highsMayBe 2 = .ok (.iload_n 2, 1) := by decide +kernel
theorem dX3_highsMayBe_3 : decode cX3_highsMayBe 3 = .ok (.aload_n 1, 1) := by decide +kernel
theorem dX3_highsMayBe_4 : decode cX3_highsMayBe 4 = .ok (.getfield 21, 3) := by decide +kernel
theorem dX3_highsMayBe_7 : decode cX3_highsMayBe 7 = .ok (.if_icmp .ge 33, 3) := by decide +kernel
theorem dX3_highsMayBe_10 : decode cX3_highsMayBe 10 = .ok (.aload_n 0, 1) := by decide +kernel
theorem dX3_highsMayBe_11 : decode cX3_highsMayBe 11 = .ok (.getfield 15, 3) := by decide +kernel
theorem dX3_highsMayBe_14 : decode cX3_highsMayBe 14 = .ok (.iload_n 2, 1) := by decide +kernel
theorem dX3_highsMayBe_15 : decode cX3_highsMayBe 15 = .ok (.iaload, 1) := by decide +kernel
theorem dX3_highsMayBe_16 : decode cX3_highsMayBe 16 = .ok (.ifCond .lt 16, 3) := by decide +kernel
theorem dX3_highsMayBe_19 : decode cX3_highsMayBe 19 = .ok (.aload_n 0, 1) := by decide +kernel
theorem dX3_highsMayBe_20 : decode cX3_highsMayBe 20 = .ok (.getfield 15, 3) := by decide +kernel
theorem dX3_highsMayBe_23 : decode cX3_highsMayBe 23 = .ok (.iload_n 2, 1) := by decide +kernel
theorem dX3_highsMayBe_24 : decode cX3_highsMayBe 24 = .ok (.iaload, 1) := by decide +kernel
theorem dX3_highsMayBe_25 : decode cX3_highsMayBe 25 = .ok (.aload_n 1, 1) := by decide +kernel
theorem dX3_highsMayBe_26 : decode cX3_highsMayBe 26 = .ok (.getfield 31, 3) := by decide +kernel
theorem dX3_highsMayBe_29 : decode cX3_highsMayBe 29 = .ok (.if_icmp .le 5, 3) := by decide +kernel
theorem dX3_highsMayBe_32 : decode cX3_highsMayBe 32 = .ok (.iconst 0, 1) := by decide +kernel
theorem dX3_highsMayBe_33 : decode cX3_highsMayBe 33 = .ok (.ireturn, 1) := by decide +kernel
theorem dX3_highsMayBe_34 : decode cX3_highsMayBe 34 = .ok (.iinc 2 1, 3) := by decide +kernel
theorem dX3_highsMayBe_37 : decode cX3_highsMayBe 37 = .ok (.goto (-35), 3) := by decide +kernel
theorem dX3_highsMayBe_40 : decode cX3_highsMayBe 40 = .ok (.iconst 1, 1) := by decide +kernel
theorem dX3_highsMayBe_41 : decode cX3_highsMayBe 41 = .ok (.ireturn, 1) := by decide +kernel
theorem dX3_marksMayBe_0 : decode cX3_marksMayBe 0 = .ok (.iconst 0, 1) := by decide +kernel
theorem dX3_marksMayBe_1 : decode cX3_marksMayBe 1 = .ok (.istore_n 3, 1) := by decide +kernel
theorem dX3_marksMayBe_2 : decode cX3_marksMayBe 2 = .ok (.iload_n 3, 1) := by decide +kernel
theorem dX3_marksMayBe_3 : decode cX3_marksMayBe 3 = .ok (.aload_n 1, 1) := by decide +kernel
theorem dX3_marksMayBe_4 : decode cX3_marksMayBe 4 = .ok (.getfield 21, 3) := by decide +kernel
theorem dX3_marksMayBe_7 : decode cX3_marksMayBe 7 = .ok (.if_icmp .ge 30, 3) := by decide +kernel
theorem dX3_marksMayBe_10 : decode cX3_marksMayBe 10 = .ok (.aload_n 0, 1) := by decide +kernel
theorem dX3_marksMayBe_11 : decode cX3_marksMayBe 11 = .ok (.getfield 18, 3) := by decide +kernel
theorem dX3_marksMayBe_14 : decode cX3_marksMayBe 14 = .ok (.iload_n 3, 1) := by decide +kernel
theorem dX3_marksMayBe_15 : decode cX3_marksMayBe 15 = .ok (.iaload, 1) := by decide +kernel
theorem dX3_marksMayBe_16 : decode cX3_marksMayBe 16 = .ok (.ifCond .lt 13, 3) := by decide +kernel
theorem dX3_marksMayBe_19 : decode cX3_marksMayBe 19 = .ok (.aload_n 0, 1) := by decide +kernel
theorem dX3_marksMayBe_20 : decode cX3_marksMayBe 20 = .ok (.getfield 18, 3) := by decide +kernel
theorem dX3_marksMayBe_23 : decode cX3_marksMayBe 23 = .ok (.iload_n 3, 1) := by decide +kernel
theorem dX3_marksMayBe_24 : decode cX3_marksMayBe 24 = .ok (.iaload, 1) := by decide +kernel
theorem dX3_marksMayBe_25 : decode cX3_marksMayBe 25 = .ok (.iload_n 2, 1) := by decide +kernel
theorem dX3_marksMayBe_26 : decode cX3_marksMayBe 26 = .ok (.if_icmp .le 5, 3) := by decide +kernel
theorem dX3_marksMayBe_29 : decode cX3_marksMayBe 29 = .ok (.iconst 0, 1) := by decide +kernel
theorem dX3_marksMayBe_30 : decode cX3_marksMayBe 30 = .ok (.ireturn, 1) := by decide +kernel
theorem dX3_marksMayBe_31 : decode cX3_marksMayBe 31 = .ok (.iinc 3 1, 3) := by decide +kernel
theorem dX3_marksMayBe_34 : decode cX3_marksMayBe 34 = .ok (.goto (-32), 3) := by decide +kernel
theorem dX3_marksMayBe_37 : decode cX3_marksMayBe 37 = .ok (.iconst 1, 1) := by decide +kernel
theorem dX3_marksMayBe_38 : decode cX3_marksMayBe 38 = .ok (.ireturn, 1) := by decide +kernel
theorem dX3_markSum_0 : decode cX3_markSum 0 = .ok (.iconst 0, 1) := by decide +kernel
theorem dX3_markSum_1 : decode cX3_markSum 1 = .ok (.istore_n 2, 1) := by decide +kernel
theorem dX3_markSum_2 : decode cX3_markSum 2 = .ok (.iconst 0, 1) := by decide +kernel
theorem dX3_markSum_3 : decode cX3_markSum 3 = .ok (.istore_n 3, 1) := by decide +kernel
theorem dX3_markSum_4 : decode cX3_markSum 4 = .ok (.iload_n 3, 1) := by decide +kernel
theorem dX3_markSum_5 : decode cX3_markSum 5 = .ok (.aload_n 1, 1) := by decide +kernel
theorem dX3_markSum_6 : decode cX3_markSum 6 = .ok (.getfield 21, 3) := by decide +kernel
theorem dX3_markSum_9 : decode cX3_markSum 9 = .ok (.if_icmp .ge 18, 3) := by decide +kernel
theorem dX3_markSum_12 : decode cX3_markSum 12 = .ok (.iload_n 2, 1) := by decide +kernel
theorem dX3_markSum_13 : decode cX3_markSum 13 = .ok (.aload_n 0, 1) := by decide +kernel
theorem dX3_markSum_14 : decode cX3_markSum 14 = .ok (.getfield 18, 3) := by decide +kernel
theorem dX3_markSum_17 : decode cX3_markSum 17 = .ok (.iload_n 3, 1) := by decide +kernel
theorem dX3_markSum_18 : decode cX3_markSum 18 = .ok (.iaload, 1) := by decide +kernel
theorem dX3_markSum_19 : decode cX3_markSum 19 = .ok (.iadd, 1) := by decide +kernel
theorem dX3_markSum_20 : decode cX3_markSum 20 = .ok (.istore_n 2, 1) := by decide +kernel
theorem dX3_markSum_21 : decode cX3_markSum 21 = .ok (.iinc 3 1, 3) := by decide +kernel
theorem dX3_markSum_24 : decode cX3_markSum 24 = .ok (.goto (-20), 3) := by decide +kernel
theorem dX3_markSum_27 : decode cX3_markSum 27 = .ok (.iload_n 2, 1) := by decide +kernel
theorem dX3_markSum_28 : decode cX3_markSum 28 = .ok (.ireturn, 1) := by decide +kernel
theorem dX3_boxOf_0 : decode cX3_boxOf 0 = .ok (.iconst 0, 1) := by decide +kernel
theorem dX3_boxOf_1 : decode cX3_boxOf 1 = .ok (.istore_n 3, 1) := by decide +kernel
theorem dX3_boxOf_2 : decode cX3_boxOf 2 = .ok (.iconst 0, 1) := by decide +kernel
theorem dX3_boxOf_3 : decode cX3_boxOf 3 = .ok (.istore 4, 2) := by decide +kernel
theorem dX3_boxOf_5 : decode cX3_boxOf 5 = .ok (.iload 4, 2) := by decide +kernel
theorem dX3_boxOf_7 : decode cX3_boxOf 7 = .ok (.aload_n 1, 1) := by decide +kernel
theorem dX3_boxOf_8 : decode cX3_boxOf 8 = .ok (.getfield 21, 3) := by decide +kernel
theorem dX3_boxOf_11 : decode cX3_boxOf 11 = .ok (.if_icmp .ge 44, 3) := by decide +kernel
theorem dX3_boxOf_14 : decode cX3_boxOf 14 = .ok (.aload_n 1, 1) := by decide +kernel
theorem dX3_boxOf_15 : decode cX3_boxOf 15 = .ok (.iload_n 2, 1) := by decide +kernel
theorem dX3_boxOf_16 : decode cX3_boxOf 16 = .ok (.iload 4, 2) := by decide +kernel
theorem dX3_boxOf_18 : decode cX3_boxOf 18 = .ok (.invokevirtual 27, 3) := by decide +kernel
theorem dX3_boxOf_21 : decode cX3_boxOf 21 = .ok (.aload_n 1, 1) := by decide +kernel
theorem dX3_boxOf_22 : decode cX3_boxOf 22 = .ok (.getfield 34, 3) := by decide +kernel
theorem dX3_boxOf_25 : decode cX3_boxOf 25 = .ok (.aload_n 0, 1) := by decide +kernel
theorem dX3_boxOf_26 : decode cX3_boxOf 26 = .ok (.getfield 18, 3) := by decide +kernel
theorem dX3_boxOf_29 : decode cX3_boxOf 29 = .ok (.iload 4, 2) := by decide +kernel
theorem dX3_boxOf_31 : decode cX3_boxOf 31 = .ok (.iaload, 1) := by decide +kernel
theorem dX3_boxOf_32 : decode cX3_boxOf 32 = .ok (.isub, 1) := by decide +kernel
theorem dX3_boxOf_33 : decode cX3_boxOf 33 = .ok (.ishr, 1) := by decide +kernel
theorem dX3_boxOf_34 : decode cX3_boxOf 34 = .ok (.istore 5, 2) := by decide +kernel
theorem dX3_boxOf_36 : decode cX3_boxOf 36 = .ok (.iload_n 3, 1) := by decide +kernel
theorem dX3_boxOf_37 : decode cX3_boxOf 37 = .ok (.aload_n 0, 1) := by decide +kernel
theorem dX3_boxOf_38 : decode cX3_boxOf 38 = .ok (.getfield 18, 3) := by decide +kernel
theorem dX3_boxOf_41 : decode cX3_boxOf 41 = .ok (.iload 4, 2) := by decide +kernel
theorem dX3_boxOf_43 : decode cX3_boxOf 43 = .ok (.iaload, 1) := by decide +kernel
theorem dX3_boxOf_44 : decode cX3_boxOf 44 = .ok (.ishl, 1) := by decide +kernel
theorem dX3_boxOf_45 : decode cX3_boxOf 45 = .ok (.iload 5, 2) := by decide +kernel
theorem dX3_boxOf_47 : decode cX3_boxOf 47 = .ok (.iadd, 1) := by decide +kernel
theorem dX3_boxOf_48 : decode cX3_boxOf 48 = .ok (.istore_n 3, 1) := by decide +kernel
theorem dX3_boxOf_49 : decode cX3_boxOf 49 = .ok (.iinc 4 1, 3) := by decide +kernel
theorem dX3_boxOf_52 : decode cX3_boxOf 52 = .ok (.goto (-47), 3) := by decide +kernel
theorem dX3_boxOf_55 : decode cX3_boxOf 55 = .ok (.iload_n 3, 1) := by decide +kernel
theorem dX3_boxOf_56 : decode cX3_boxOf 56 = .ok (.ireturn, 1) := by decide +kernel
theorem dX3_signOf_0 : decode cX3_signOf 0 = .ok (.iconst 0, 1) := by decide +kernel
theorem dX3_signOf_1 : decode cX3_signOf 1 = .ok (.istore_n 3, 1) := by decide +kernel
theorem dX3_signOf_2 : decode cX3_signOf 2 = .ok (.iconst 0, 1) := by decide +kernel
theorem dX3_signOf_3 : decode cX3_signOf 3 = .ok (.istore 4, 2) := by decide +kernel
theorem dX3_signOf_5 : decode cX3_signOf 5 = .ok (.iload 4, 2) := by decide +kernel
theorem dX3_signOf_7 : decode cX3_signOf 7 = .ok (.aload_n 1, 1) := by decide +kernel
theorem dX3_signOf_8 : decode cX3_signOf 8 = .ok (.getfield 21, 3) := by decide +kernel
theorem dX3_signOf_11 : decode cX3_signOf 11 = .ok (.if_icmp .ge 30, 3) := by decide +kernel
theorem dX3_signOf_14 : decode cX3_signOf 14 = .ok (.iload_n 3, 1) := by decide +kernel
theorem dX3_signOf_15 : decode cX3_signOf 15 = .ok (.aload_n 1, 1) := by decide +kernel
theorem dX3_signOf_16 : decode cX3_signOf 16 = .ok (.iload_n 2, 1) := by decide +kernel
theorem dX3_signOf_17 : decode cX3_signOf 17 = .ok (.iload 4, 2) := by decide +kernel
theorem dX3_signOf_19 : decode cX3_signOf 19 = .ok (.invokevirtual 27, 3) := by decide +kernel
theorem dX3_signOf_22 : decode cX3_signOf 22 = .ok (.aload_n 0, 1) := by decide +kernel
theorem dX3_signOf_23 : decode cX3_signOf 23 = .ok (.getfield 18, 3) := by decide +kernel
theorem dX3_signOf_26 : decode cX3_signOf 26 = .ok (.iload 4, 2) := by decide +kernel
theorem dX3_signOf_28 : decode cX3_signOf 28 = .ok (.iaload, 1) := by decide +kernel
theorem dX3_signOf_29 : decode cX3_signOf 29 = .ok (.iand, 1) := by decide +kernel
theorem dX3_signOf_30 : decode cX3_signOf 30 = .ok (.invokestatic 37, 3) := by decide +kernel
theorem dX3_signOf_33 : decode cX3_signOf 33 = .ok (.iadd, 1) := by decide +kernel
theorem dX3_signOf_34 : decode cX3_signOf 34 = .ok (.istore_n 3, 1) := by decide +kernel
theorem dX3_signOf_35 : decode cX3_signOf 35 = .ok (.iinc 4 1, 3) := by decide +kernel
theorem dX3_signOf_38 : decode cX3_signOf 38 = .ok (.goto (-33), 3) := by decide +kernel
theorem dX3_signOf_41 : decode cX3_signOf 41 = .ok (.iload_n 3, 1) := by decide +kernel
theorem dX3_signOf_42 : decode cX3_signOf 42 = .ok (.iconst 2, 1) := by decide +kernel
theorem dX3_signOf_43 : decode cX3_signOf 43 = .ok (.irem, 1) := by decide +kernel
theorem dX3_signOf_44 : decode cX3_signOf 44 = .ok (.ifCond .ne 7, 3) := by decide +kernel
theorem dX3_signOf_47 : decode cX3_signOf 47 = .ok (.iconst 1, 1) := by decide +kernel
theorem dX3_signOf_48 : decode cX3_signOf 48 = .ok (.goto 4, 3) := by decide +kernel
theorem dX3_signOf_51 : decode cX3_signOf 51 = .ok (.iconst (-1), 1) := by decide +kernel
theorem dX3_signOf_52 : decode cX3_signOf 52 = .ok (.ireturn, 1) := by decide +kernel
theorem dX3_productOfPowers_0 : decode cX3_productOfPowers 0 = .ok (.lconst 1, 1) := by decide +kernel
theorem dX3_productOfPowers_1 : decode cX3_productOfPowers 1 = .ok (.lstore_n 3, 1) := by decide +kernel
theorem dX3_productOfPowers_2 : decode cX3_productOfPowers 2 = .ok (.iconst 0, 1) := by decide +kernel
theorem dX3_productOfPowers_3 : decode cX3_productOfPowers 3 = .ok (.istore 5, 2) := by decide +kernel
theorem dX3_productOfPowers_5 : decode cX3_productOfPowers 5 = .ok (.iload 5, 2) := by decide +kernel
theorem dX3_productOfPowers_7 : decode cX3_productOfPowers 7 = .ok (.aload_n 1, 1) := by decide +kernel
theorem dX3_productOfPowers_8 : decode cX3_productOfPowers 8 = .ok (.getfield 21, 3) := by decide +kernel
theorem dX3_productOfPowers_11 : decode cX3_productOfPowers 11 = .ok (.if_icmp .ge 30, 3) := by decide +kernel
theorem dX3_productOfPowers_14 : decode cX3_productOfPowers 14 = .ok (.lload_n 3, 1) := by decide +kernel
theorem dX3_productOfPowers_15 : decode cX3_productOfPowers 15 = .ok (.aload_n 1, 1) := by decide +kernel
theorem dX3_productOfPowers_16 : decode cX3_productOfPowers 16 = .ok (.iload_n 2, 1) := by decide +kernel
theorem dX3_productOfPowers_17 : decode cX3_productOfPowers 17 = .ok (.iload 5, 2) := by decide +kernel
theorem dX3_productOfPowers_19 : decode cX3_productOfPowers 19 = .ok (.invokevirtual 27, 3) := by decide +kernel
theorem dX3_productOfPowers_22 : decode cX3_productOfPowers 22 = .ok (.i2l, 1) := by decide +kernel
theorem dX3_productOfPowers_23 : decode cX3_productOfPowers 23 = .ok (.aload_n 0, 1) := by decide +kernel
theorem dX3_productOfPowers_24 : decode cX3_productOfPowers 24 = .ok (.getfield 18, 3) := by decide +kernel
theorem dX3_productOfPowers_27 : decode cX3_productOfPowers 27 = .ok (.iload 5, 2) := by decide +kernel
theorem dX3_productOfPowers_29 : decode cX3_productOfPowers 29 = .ok (.iaload, 1) := by decide +kernel
theorem dX3_productOfPowers_30 : decode cX3_productOfPowers 30 = .ok (.invokestatic 43, 3) := by decide +kernel
theorem dX3_productOfPowers_33 : decode cX3_productOfPowers 33 = .ok (.lmul, 1) := by decide +kernel
theorem dX3_productOfPowers_34 : decode cX3_productOfPowers 34 = .ok (.lstore_n 3, 1) := by decide +kernel
theorem dX3_productOfPowers_35 : decode cX3_productOfPowers 35 = .ok (.iinc 5 1, 3) := by decide +kernel
theorem dX3_productOfPowers_38 : decode cX3_productOfPowers 38 = .ok (.goto (-33), 3) := by decide +kernel
theorem dX3_productOfPowers_41 : decode cX3_productOfPowers 41 = .ok (.lload_n 3, 1) := by decide +kernel
theorem dX3_productOfPowers_42 : decode cX3_productOfPowers 42 = .ok (.lreturn, 1) := by decide +kernel
theorem dX4_init_0 : decode cX4_init 0 = .ok (.aload_n 0, 1) := by decide +kernel
theorem dX4_init_1 : decode cX4_init 1 = .ok (.invokespecial 1, 3) := by decide +kernel
theorem dX4_init_4 : decode cX4_init 4 = .ok (.aload_n 0, 1) := by decide +kernel
theorem dX4_init_5 : decode cX4_init 5 = .ok (.bipush 12, 2) := by decide +kernel
theorem dX4_init_7 : decode cX4_init 7 = .ok (.anewarray 9, 3) := by decide +kernel
theorem dX4_init_10 : decode cX4_init 10 = .ok (.putfield 11, 3) := by decide +kernel
theorem dX4_init_13 : decode cX4_init 13 = .ok (.aload_n 0, 1) := by decide +kernel
theorem dX4_init_14 : decode cX4_init 14 = .ok (.new 15, 3) := by decide +kernel
theorem dX4_init_17 : decode cX4_init 17 = .ok (.dup, 1) := by decide +kernel
theorem dX4_init_18 : decode cX4_init 18 = .ok (.invokespecial 17, 3) := by decide +kernel
theorem dX4_init_21 : decode cX4_init 21 = .ok (.putfield 18, 3) := by decide +kernel
theorem dX4_init_24 : decode cX4_init 24 = .ok (.aload_n 0, 1) := by decide +kernel
theorem dX4_init_25 : decode cX4_init 25 = .ok (.new 22, 3) := by decide +kernel
theorem dX4_init_28 : decode cX4_init 28 = .ok (.dup, 1) := by decide +kernel
theorem dX4_init_29 : decode cX4_init 29 = .ok (.invokespecial 24, 3) := by decide +kernel
theorem dX4_init_32 : decode cX4_init 32 = .ok (.putfield 25, 3) := by decide +kernel
theorem dX4_init_35 : decode cX4_init 35 = .ok (.aload_n 0, 1) := by decide +kernel
theorem dX4_init_36 : decode cX4_init 36 = .ok (.sipush 4913, 3) := by decide +kernel
theorem dX4_init_39 : decode cX4_init 39 = .ok (.newarray .int, 2) := by decide +kernel
theorem dX4_init_41 : decode cX4_init 41 = .ok (.putfield 29, 3) := by decide +kernel
theorem dX4_init_44 : decode cX4_init 44 = .ok (.aload_n 0, 1) := by decide +kernel
theorem dX4_init_45 : decode cX4_init 45 = .ok (.new 33, 3) := by decide +kernel
theorem dX4_init_48 : decode cX4_init 48 = .ok (.dup, 1) := by decide +kernel
theorem dX4_init_49 : decode cX4_init 49 = .ok (.invokespecial 35, 3) := by decide +kernel
theorem dX4_init_52 : decode cX4_init 52 = .ok (.putfield 36, 3) := by decide +kernel
theorem dX4_init_55 : decode cX4_init 55 = .ok (.aload_n 0, 1) := by decide +kernel
theorem dX4_init_56 : decode cX4_init 56 = .ok (.bipush 7, 2) := by decide +kernel
theorem dX4_init_58 : decode cX4_init 58 = .ok (.newarray .int, 2) := by decide +kernel
theorem dX4_init_60 : decode cX4_init 60 = .ok (.putfield 40, 3) := by decide +kernel
theorem dX4_init_63 : decode cX4_init 63 = .ok (.aload_n 0, 1) := by decide +kernel
theorem dX4_init_64 : decode cX4_init 64 = .ok (.iconst 0, 1) := by decide +kernel
theorem dX4_init_65 : decode cX4_init 65 = .ok (.putfield 43, 3) := by decide +kernel
theorem dX4_init_68 : decode cX4_init 68 = .ok (.aload_n 0, 1) := by decide +kernel
theorem dX4_init_69 : decode cX4_init 69 = .ok (.iconst 0, 1) := by decide +kernel
theorem dX4_init_70 : decode cX4_init 70 = .ok (.putfield 47, 3) := by decide +kernel
theorem dX4_init_73 : decode cX4_init 73 = .ok (.return_, 1) := by decide +kernel
theorem dX4_table_0 : decode cX4_table 0 = .ok (.aload_n 0, 1) := by decide +kernel
theorem dX4_table_1 : decode cX4_table 1 = .ok (.iload_n 1, 1) := by decide +kernel
theorem dX4_table_2 : decode cX4_table 2 = .ok (.iload_n 2, 1) := by decide +kernel
theorem dX4_table_3 : decode cX4_table 3 = .ok (.invokevirtual 50, 3) := by decide +kernel
theorem dX4_table_6 : decode cX4_table 6 = .ok (.istore_n 3, 1) := by decide +kernel
theorem dX4_table_7 : decode cX4_table 7 = .ok (.iload_n 3, 1) := by decide +kernel
theorem dX4_table_8 : decode cX4_table 8 = .ok (.ifCond .eq 9, 3) := by decide +kernel
theorem dX4_table_11 : decode cX4_table 11 = .ok (.aload_n 0, 1) := by decide +kernel
theorem dX4_table_12 : decode cX4_table 12 = .ok (.iload_n 3, 1) := by decide +kernel
theorem dX4_table_13 : decode cX4_table 13 = .ok (.invokevirtual 54, 3) := by decide +kernel
theorem dX4_table_16 : decode cX4_table 16 = .ok (.ireturn, 1) := by decide +kernel
theorem dX4_table_17 : decode cX4_table 17 = .ok (.aload_n 0, 1) := by decide +kernel
theorem dX4_table_18 : decode cX4_table 18 = .ok (.new 9, 3) := by decide +kernel
theorem dX4_table_21 : decode cX4_table 21 = .ok (.dup, 1) := by decide +kernel
theorem dX4_table_22 : decode cX4_table 22 = .ok (.iconst 0, 1) := by decide +kernel
theorem dX4_table_23 : decode cX4_table 23 = .ok (.iload_n 1, 1) := by decide +kernel
theorem dX4_table_24 : decode cX4_table 24 = .ok (.iload_n 2, 1) := by decide +kernel
theorem dX4_table_25 : decode cX4_table 25 = .ok (.iconst 1, 1) := by decide +kernel
theorem dX4_table_26 : decode cX4_table 26 = .ok (.iload_n 2, 1) := by decide +kernel
theorem dX4_table_27 : decode cX4_table 27 = .ok (.ishl, 1) := by decide +kernel
theorem dX4_table_28 : decode cX4_table 28 = .ok (.invokespecial 58, 3) := by decide +kernel
theorem dX4_table_31 : decode cX4_table 31 = .ok (.invokevirtual 61, 3) := by decide +kernel
theorem dX4_table_34 : decode cX4_table 34 = .ok (.ireturn, 1) := by decide +kernel
theorem dX4_row_0 : decode cX4_row 0 = .ok (.aload_n 0, 1) := by decide +kernel
theorem dX4_row_1 : decode cX4_row 1 = .ok (.iload_n 1, 1) := by decide +kernel
theorem dX4_row_2 : decode cX4_row 2 = .ok (.invokevirtual 65, 3) := by decide +kernel
theorem dX4_row_5 : decode cX4_row 5 = .ok (.astore 5, 2) := by decide +kernel
theorem dX4_row_7 : decode cX4_row 7 = .ok (.aload 5, 2) := by decide +kernel
theorem dX4_row_9 : decode cX4_row 9 = .ok (.ifnull 12, 3) := by decide +kernel
theorem dX4_row_12 : decode cX4_row 12 = .ok (.aload 5, 2) := by decide +kernel
theorem dX4_row_14 : decode cX4_row 14 = .ok (.iload_n 2, 1) := by decide +kernel
theorem dX4_row_15 : decode cX4_row 15 = .ok (.invokevirtual 69, 3) := by decide +kernel
theorem dX4_row_18 : decode cX4_row 18 = .ok (.ifCond .ne 9, 3) := by decide +kernel
theorem dX4_row_21 : decode cX4_row 21 = .ok (.aload_n 0, 1) := by decide +kernel
theorem dX4_row_22 : decode cX4_row 22 = .ok (.iconst (-1), 1) := by decide +kernel
theorem dX4_row_23 : decode cX4_row 23 = .ok (.invokevirtual 54, 3) := by decide +kernel
theorem dX4_row_26 : decode cX4_row 26 = .ok (.ireturn, 1) := by decide +kernel
theorem dX4_row_27 : decode cX4_row 27 = .ok (.aload 5, 2) := by decide +kernel
theorem dX4_row_29 : decode cX4_row 29 = .ok (.getfield 73, 3) := by decide +kernel
theorem dX4_row_32 : decode cX4_row 32 = .ok (.ifCond .eq 10, 3) := by decide +kernel
theorem dX4_row_35 : decode cX4_row 35 = .ok (.aload_n 0, 1) := by decide +kernel
theorem dX4_row_36 : decode cX4_row 36 = .ok (.bipush (-2), 2) := by decide +kernel
theorem dX4_row_38 : decode cX4_row 38 = .ok (.invokevirtual 54, 3) := by decide +kernel
theorem dX4_row_41 : decode cX4_row 41 = .ok (.ireturn, 1) := by decide +kernel
theorem dX4_row_42 : decode cX4_row 42 = .ok (.iload_n 3, 1) := by decide +kernel
theorem dX4_row_43 : decode cX4_row 43 = .ok (.ifCond .lt 27, 3) := by decide +kernel
theorem dX4_row_46 : decode cX4_row 46 = .ok (.iload_n 3, 1) := by decide +kernel
theorem dX4_row_47 : decode cX4_row 47 = .ok (.aload 5, 2) := by decide +kernel
theorem dX4_row_49 : decode cX4_row 49 = .ok (.getfield 76, 3) := by decide +kernel
theorem dX4_row_52 : decode cX4_row 52 = .ok (.if_icmp .ge 18, 3) := by decide +kernel
theorem dX4_row_55 : decode cX4_row 55 = .ok (.iload 4, 2) := by decide +kernel
theorem dX4_row_57 : decode cX4_row 57 = .ok (.ifCond .lt 13, 3) := by decide +kernel
theorem dX4_row_60 : decode cX4_row 60 = .ok (.iload 4, 2) := by decide +kernel
theorem dX4_row_62 : decode cX4_row 62 = .ok (.aload 5, 2) := by decide +kernel
theorem dX4_row_64 : decode cX4_row 64 = .ok (.getfield 79, 3) := by decide +kernel
theorem dX4_row_67 : decode cX4_row 67 = .ok (.if_icmp .lt 10, 3) := by decide +kernel
theorem dX4_row_70 : decode cX4_row 70 = .ok (.aload_n 0, 1) := by decide +kernel
theorem dX4_row_71 : decode cX4_row 71 = .ok (.bipush (-3), 2) := by decide +kernel
theorem dX4_row_73 : decode cX4_row 73 = .ok (.invokevirtual 54, 3) := by decide +kernel
theorem dX4_row_76 : decode cX4_row 76 = .ok (.ireturn, 1) := by decide +kernel
theorem dX4_row_77 : decode cX4_row 77 = .ok (.aload 5, 2) := by decide +kernel
theorem dX4_row_79 : decode cX4_row 79 = .ok (.iload_n 2, 1) := by decide +kernel
theorem dX4_row_80 : decode cX4_row 80 = .ok (.iload_n 3, 1) := by decide +kernel
theorem dX4_row_81 : decode cX4_row 81 = .ok (.invokevirtual 82, 3) := by decide +kernel
theorem dX4_row_84 : decode cX4_row 84 = .ok (.istore 6, 2) := by decide +kernel
theorem dX4_row_86 : decode cX4_row 86 = .ok (.aload 5, 2) := by decide +kernel
theorem dX4_row_88 : decode cX4_row 88 = .ok (.iload_n 2, 1) := by decide +kernel
theorem dX4_row_89 : decode cX4_row 89 = .ok (.iload_n 3, 1) := by decide +kernel
theorem dX4_row_90 : decode cX4_row 90 = .ok (.iload 4, 2) := by decide +kernel
theorem dX4_row_92 : decode cX4_row 92 = .ok (.invokevirtual 85, 3) := by decide +kernel
theorem dX4_row_95 : decode cX4_row 95 = .ok (.aload 5, 2) := by decide +kernel
theorem dX4_row_97 : decode cX4_row 97 = .ok (.iload_n 2, 1) := by decide +kernel
theorem dX4_row_98 : decode cX4_row 98 = .ok (.invokevirtual 89, 3) := by decide +kernel
theorem dX4_row_101 : decode cX4_row 101 = .ok (.iload 6, 2) := by decide +kernel
theorem dX4_row_103 : decode cX4_row 103 = .ok (.ireturn, 1) := by decide +kernel
theorem dX4_ladder_0 : decode cX4_ladder 0 = .ok (.aload_n 0, 1) := by decide +kernel
theorem dX4_ladder_1 : decode cX4_ladder 1 = .ok (.iconst 1, 1) := by decide +kernel
theorem dX4_ladder_2 : decode cX4_ladder 2 = .ok (.iload_n 1, 1) := by decide +kernel
theorem dX4_ladder_3 : decode cX4_ladder 3 = .ok (.invokevirtual 50, 3) := by decide +kernel
theorem dX4_ladder_6 : decode cX4_ladder 6 = .ok (.istore_n 2, 1) := by decide +kernel
theorem dX4_ladder_7 : decode cX4_ladder 7 = .ok (.iload_n 2, 1) := by decide +kernel
theorem dX4_ladder_8 : decode cX4_ladder 8 = .ok (.ifCond .eq 9, 3) := by decide +kernel
theorem dX4_ladder_11 : decode cX4_ladder 11 = .ok (.aload_n 0, 1) := by decide +kernel
theorem dX4_ladder_12 : decode cX4_ladder 12 = .ok (.iload_n 2, 1) := by decide +kernel
theorem dX4_ladder_13 : decode cX4_ladder 13 = .ok (.invokevirtual 54, 3) := by decide +kernel
theorem dX4_ladder_16 : decode cX4_ladder 16 = .ok (.ireturn, 1) := by decide +kernel
theorem dX4_ladder_17 : decode cX4_ladder 17 = .ok (.new 9, 3) := by decide +kernel
theorem dX4_ladder_20 : decode cX4_ladder 20 = .ok (.dup, 1) := by decide +kernel
theorem dX4_ladder_21 : decode cX4_ladder 21 = .ok (.iconst 1, 1) := by decide +kernel
theorem dX4_ladder_22 : decode cX4_ladder 22 = .ok (.iconst 1, 1) := by decide +kernel
theorem dX4_ladder_23 : decode cX4_ladder 23 = .ok (.iload_n 1, 1) := by decide +kernel
theorem dX4_ladder_24 : decode cX4_ladder 24 = .ok (.iconst 1, 1) := by decide +kernel
theorem dX4_ladder_25 : decode cX4_ladder 25 = .ok (.iload_n 1, 1) := by decide +kernel
theorem dX4_ladder_26 : decode cX4_ladder 26 = .ok (.ishl, 1) := by decide +kernel
theorem dX4_ladder_27 : decode cX4_ladder 27 = .ok (.invokespecial 58, 3) := by decide +kernel
theorem dX4_ladder_30 : decode cX4_ladder 30 = .ok (.astore_n 3, 1) := by decide +kernel
theorem dX4_ladder_31 : decode cX4_ladder 31 = .ok (.iconst 0, 1) := by decide +kernel
theorem dX4_ladder_32 : decode cX4_ladder 32 = .ok (.istore 4, 2) := by decide +kernel
theorem dX4_ladder_34 : decode cX4_ladder 34 = .ok (.iload 4, 2) := by decide +kernel
theorem dX4_ladder_36 : decode cX4_ladder 36 = .ok (.iload_n 1, 1) := by decide +kernel
theorem dX4_ladder_37 : decode cX4_ladder 37 = .ok (.if_icmp .ge 20, 3) := by decide +kernel
theorem dX4_ladder_40 : decode cX4_ladder 40 = .ok (.aload_n 3, 1) := by decide +kernel
theorem dX4_ladder_41 : decode cX4_ladder 41 = .ok (.iconst 0, 1) := by decide +kernel
theorem dX4_ladder_42 : decode cX4_ladder 42 = .ok (.iload 4, 2) := by decide +kernel
theorem dX4_ladder_44 : decode cX4_ladder 44 = .ok (.iconst 1, 1) := by decide +kernel
theorem dX4_ladder_45 : decode cX4_ladder 45 = .ok (.iload 4, 2) := by decide +kernel
theorem dX4_ladder_47 : decode cX4_ladder 47 = .ok (.ishl, 1) := by decide +kernel
theorem dX4_ladder_48 : decode cX4_ladder 48 = .ok (.invokevirtual 85, 3) := by decide +kernel
theorem dX4_ladder_51 : decode cX4_ladder 51 = .ok (.iinc 4 1, 3) := by decide +kernel
theorem dX4_ladder_54 : decode cX4_ladder 54 = .ok (.goto (-20), 3) := by decide +kernel
theorem dX4_ladder_57 : decode cX4_ladder 57 = .ok (.aload_n 3, 1) := by decide +kernel
theorem dX4_ladder_58 : decode cX4_ladder 58 = .ok (.iconst 0, 1) := by decide +kernel
theorem dX4_ladder_59 : decode cX4_ladder 59 = .ok (.invokevirtual 89, 3) := by decide +kernel
theorem dX4_ladder_62 : decode cX4_ladder 62 = .ok (.aload_n 0, 1) := by decide +kernel
theorem dX4_ladder_63 : decode cX4_ladder 63 = .ok (.aload_n 3, 1) := by decide +kernel
theorem dX4_ladder_64 : decode cX4_ladder 64 = .ok (.invokevirtual 61, 3) := by decide +kernel
theorem dX4_ladder_67 : decode cX4_ladder 67 = .ok (.ireturn, 1) := by decide +kernel
theorem dX4_direction_0 : decode cX4_direction 0 = .ok (.aload_n 0, 1) := by decide +kernel
theorem dX4_direction_1 : decode cX4_direction 1 = .ok (.iload_n 1, 1) := by decide +kernel
theorem dX4_direction_2 : decode cX4_direction 2 = .ok (.invokevirtual 65, 3) := by decide +kernel
theorem dX4_direction_5 : decode cX4_direction 5 = .ok (.astore 5, 2) := by decide +kernel
theorem dX4_direction_7 : decode cX4_direction 7 = .ok (.aload 5, 2) := by decide +kernel
theorem dX4_direction_9 : decode cX4_direction 9 = .ok (.ifnonnull 9, 3) := by decide +kernel
theorem dX4_direction_12 : decode cX4_direction 12 = .ok (.aload_n 0, 1) := by decide +kernel
theorem dX4_direction_13 : decode cX4_direction 13 = .ok (.iconst (-1), 1) := by decide +kernel
theorem dX4_direction_14 : decode cX4_direction 14 = .ok (.invokevirtual 54, 3) := by decide +kernel
theorem dX4_direction_17 : decode cX4_direction 17 = .ok (.ireturn, 1) := by decide +kernel
theorem dX4_direction_18 : decode cX4_direction 18 = .ok (.aload 5, 2) := by decide +kernel
theorem dX4_direction_20 : decode cX4_direction 20 = .ok (.getfield 73, 3) := by decide +kernel
theorem dX4_direction_23 : decode cX4_direction 23 = .ok (.iconst 1, 1) := by decide +kernel
theorem dX4_direction_24 : decode cX4_direction 24 = .ok (.if_icmp .eq 10, 3) := by decide +kernel
theorem dX4_direction_27 : decode cX4_direction 27 = .ok (.aload_n 0, 1) := by decide +kernel
theorem dX4_direction_28 : decode cX4_direction 28 = .ok (.bipush (-2), 2) := by decide +kernel
theorem dX4_direction_30 : decode cX4_direction 30 = .ok (.invokevirtual 54, 3) := by decide +kernel
theorem dX4_direction_33 : decode cX4_direction 33 = .ok (.ireturn, 1) := by decide +kernel
theorem dX4_direction_34 : decode cX4_direction 34 = .ok (.iload_n 2, 1) := by decide +kernel
theorem dX4_direction_35 : decode cX4_direction 35 = .ok (.iconst 3, 1) := by decide +kernel
theorem dX4_direction_36 : decode cX4_direction 36 = .ok (.if_icmp .ge 10, 3) := by decide +kernel
theorem dX4_direction_39 : decode cX4_direction 39 = .ok (.aload_n 0, 1) := by decide +kernel
theorem dX4_direction_40 : decode cX4_direction 40 = .ok (.bipush (-4), 2) := by decide +kernel
theorem dX4_direction_42 : decode cX4_direction 42 = .ok (.invokevirtual 54, 3) := by decide +kernel
theorem dX4_direction_45 : decode cX4_direction 45 = .ok (.ireturn, 1) := by decide +kernel
theorem dX4_direction_46 : decode cX4_direction 46 = .ok (.iload_n 2, 1) := by decide +kernel
theorem dX4_direction_47 : decode cX4_direction 47 = .ok (.bipush 127, 2) := by decide +kernel
theorem dX4_direction_49 : decode cX4_direction 49 = .ok (.if_icmp .gt 13, 3) := by decide +kernel
theorem dX4_direction_52 : decode cX4_direction 52 = .ok (.aload 5, 2) := by decide +kernel
theorem dX4_direction_54 : decode cX4_direction 54 = .ok (.getfield 93, 3) := by decide +kernel
theorem dX4_direction_57 : decode cX4_direction 57 = .ok (.bipush 6, 2) := by decide +kernel
theorem dX4_direction_59 : decode cX4_direction 59 = .ok (.if_icmp .lt 10, 3) := by decide +kernel
theorem dX4_direction_62 : decode cX4_direction 62 = .ok (.aload_n 0, 1) := by decide +kernel
theorem dX4_direction_63 : decode cX4_direction 63 = .ok (.bipush (-6), 2) := by decide +kernel
theorem dX4_direction_65 : decode cX4_direction 65 = .ok (.invokevirtual 54, 3) := by decide +kernel
theorem dX4_direction_68 : decode cX4_direction 68 = .ok (.ireturn, 1) := by decide +kernel
theorem dX4_direction_69 : decode cX4_direction 69 = .ok (.iload_n 2, 1) := by decide +kernel
theorem dX4_direction_70 : decode cX4_direction 70 = .ok (.iconst 2, 1) := by decide +kernel
theorem dX4_direction_71 : decode cX4_direction 71 = .ok (.irem, 1) := by decide +kernel
theorem dX4_direction_72 : decode cX4_direction 72 = .ok (.ifCond .eq 14, 3) := by decide +kernel
theorem dX4_direction_75 : decode cX4_direction 75 = .ok (.iload_n 2, 1) := by decide +kernel
theorem dX4_direction_76 : decode cX4_direction 76 = .ok (.invokestatic 96, 3) := by decide +kernel
theorem dX4_direction_79 : decode cX4_direction 79 = .ok (.lload_n 3, 1) := by decide +kernel
theorem dX4_direction_80 : decode cX4_direction 80 = .ok (.invokestatic 99, 3) := by decide +kernel
theorem dX4_direction_83 : decode cX4_direction 83 = .ok (.ifCond .ne 10, 3) := by decide +kernel
theorem dX4_direction_86 : decode cX4_direction 86 = .ok (.aload_n 0, 1) := by decide +kernel
theorem dX4_direction_87 : decode cX4_direction 87 = .ok (.bipush (-3), 2) := by decide +kernel
theorem dX4_direction_89 : decode cX4_direction 89 = .ok (.invokevirtual 54, 3) := by decide +kernel
theorem dX4_direction_92 : decode cX4_direction 92 = .ok (.ireturn, 1) := by decide +kernel
theorem dX4_direction_93 : decode cX4_direction 93 = .ok (.aload 5, 2) := by decide +kernel
theorem dX4_direction_95 : decode cX4_direction 95 = .ok (.iload_n 2, 1) := by decide +kernel
theorem dX4_direction_96 : decode cX4_direction 96 = .ok (.iload_n 2, 1) := by decide +kernel
theorem dX4_direction_97 : decode cX4_direction 97 = .ok (.invokestatic 96, 3) := by decide +kernel
theorem dX4_direction_100 : decode cX4_direction 100 = .ok (.lload_n 3, 1) := by decide +kernel
theorem dX4_direction_101 : decode cX4_direction 101 = .ok (.invokevirtual 103, 3) := by decide +kernel
theorem dX4_direction_104 : decode cX4_direction 104 = .ok (.aload 5, 2) := by decide +kernel
theorem dX4_direction_106 : decode cX4_direction 106 = .ok (.getfield 93, 3) := by decide +kernel
theorem dX4_direction_109 : decode cX4_direction 109 = .ok (.iconst 1, 1) := by decide +kernel
theorem dX4_direction_110 : decode cX4_direction 110 = .ok (.isub, 1) := by decide +kernel
theorem dX4_direction_111 : decode cX4_direction 111 = .ok (.ireturn, 1) := by decide +kernel
theorem dX4_turned_0 : decode cX4_turned 0 = .ok (.aload_n 0, 1) := by decide +kernel
theorem dX4_turned_1 : decode cX4_turned 1 = .ok (.iload_n 1, 1) := by decide +kernel
theorem dX4_turned_2 : decode cX4_turned 2 = .ok (.invokevirtual 65, 3) := by decide +kernel
theorem dX4_turned_5 : decode cX4_turned 5 = .ok (.astore_n 2, 1) := by decide +kernel
theorem dX4_turned_6 : decode cX4_turned 6 = .ok (.aload_n 2, 1) := by decide +kernel
theorem dX4_turned_7 : decode cX4_turned 7 = .ok (.ifnonnull 9, 3) := by decide +kernel
theorem dX4_turned_10 : decode cX4_turned 10 = .ok (.aload_n 0, 1) := by decide +kernel
theorem dX4_turned_11 : decode cX4_turned 11 = .ok (.iconst (-1), 1) := by decide +kernel
theorem dX4_turned_12 : decode cX4_turned 12 = .ok (.invokevirtual 54, 3) := by decide +kernel
theorem dX4_turned_15 : decode cX4_turned 15 = .ok (.ireturn, 1) := by decide +kernel
theorem dX4_turned_16 : decode cX4_turned 16 = .ok (.aload_n 2, 1) := by decide +kernel
theorem dX4_turned_17 : decode cX4_turned 17 = .ok (.invokevirtual 107, 3) := by decide +kernel
theorem dX4_turned_20 : decode cX4_turned 20 = .ok (.ifCond .ne 10, 3) := by decide +kernel
theorem dX4_turned_23 : decode cX4_turned 23 = .ok (.aload_n 0, 1) := by decide +kernel
theorem dX4_turned_24 : decode cX4_turned 24 = .ok (.bipush (-2), 2) := by decide +kernel
theorem dX4_turned_26 : decode cX4_turned 26 = .ok (.invokevirtual 54, 3) := by decide +kernel
theorem dX4_turned_29 : decode cX4_turned 29 = .ok (.ireturn, 1) := by decide +kernel
theorem dX4_turned_30 : decode cX4_turned 30 = .ok (.aload_n 0, 1) := by decide +kernel
theorem dX4_turned_31 : decode cX4_turned 31 = .ok (.getfield 43, 3) := by decide +kernel
theorem dX4_turned_34 : decode cX4_turned 34 = .ok (.bipush 12, 2) := by decide +kernel
theorem dX4_turned_36 : decode cX4_turned 36 = .ok (.if_icmp .lt 10, 3) := by decide +kernel
theorem dX4_turned_39 : decode cX4_turned 39 = .ok (.aload_n 0, 1) := by decide +kernel
theorem dX4_turned_40 : decode cX4_turned 40 = .ok (.bipush (-6), 2) := by decide +kernel
theorem dX4_turned_42 : decode cX4_turned 42 = .ok (.invokevirtual 54, 3) := by decide +kernel
theorem dX4_turned_45 : decode cX4_turned 45 = .ok (.ireturn, 1) := by decide +kernel
theorem dX4_turned_46 : decode cX4_turned 46 = .ok (.new 9, 3) := by decide +kernel
theorem dX4_turned_49 : decode cX4_turned 49 = .ok (.dup, 1) := by decide +kernel
theorem dX4_turned_50 : decode cX4_turned 50 = .ok (.iconst 2, 1) := by decide +kernel
theorem dX4_turned_51 : decode cX4_turned 51 = .ok (.aload_n 2, 1) := by decide +kernel
theorem dX4_turned_52 : decode cX4_turned 52 = .ok (.getfield 93, 3) := by decide +kernel
theorem dX4_turned_55 : decode cX4_turned 55 = .ok (.aload_n 2, 1) := by decide +kernel
theorem dX4_turned_56 : decode cX4_turned 56 = .ok (.getfield 76, 3) := by decide +kernel
theorem dX4_turned_59 : decode cX4_turned 59 = .ok (.aload_n 2, 1) := by decide +kernel
theorem dX4_turned_60 : decode cX4_turned 60 = .ok (.getfield 79, 3) := by decide +kernel
theorem dX4_turned_63 : decode cX4_turned 63 = .ok (.invokespecial 58, 3) := by decide +kernel
theorem dX4_turned_66 : decode cX4_turned 66 = .ok (.astore_n 3, 1) := by decide +kernel
theorem dX4_turned_67 : decode cX4_turned 67 = .ok (.aload_n 3, 1) := by decide +kernel
theorem dX4_turned_68 : decode cX4_turned 68 = .ok (.aload_n 2, 1) := by decide +kernel
theorem dX4_turned_69 : decode cX4_turned 69 = .ok (.invokevirtual 111, 3) := by decide +kernel
theorem dX4_turned_72 : decode cX4_turned 72 = .ok (.aload_n 0, 1) := by decide +kernel
theorem dX4_turned_73 : decode cX4_turned 73 = .ok (.aload_n 3, 1) := by decide +kernel
theorem dX4_turned_74 : decode cX4_turned 74 = .ok (.invokevirtual 61, 3) := by decide +kernel
theorem dX4_turned_77 : decode cX4_turned 77 = .ok (.ireturn, 1) := by decide +kernel
theorem dX4_mask_0 : decode cX4_mask 0 = .ok (.aload_n 0, 1) := by decide +kernel
theorem dX4_mask_1 : decode cX4_mask 1 = .ok (.iload_n 1, 1) := by decide +kernel
theorem dX4_mask_2 : decode cX4_mask 2 = .ok (.invokevirtual 65, 3) := by decide +kernel
theorem dX4_mask_5 : decode cX4_mask 5 = .ok (.astore 4, 2) := by decide +kernel
theorem dX4_mask_7 : decode cX4_mask 7 = .ok (.aload 4, 2) := by decide +kernel
theorem dX4_mask_9 : decode cX4_mask 9 = .ok (.ifnull 12, 3) := by decide +kernel
theorem dX4_mask_12 : decode cX4_mask 12 = .ok (.aload 4, 2) := by decide +kernel
theorem dX4_mask_14 : decode cX4_mask 14 = .ok (.iload_n 2, 1) := by decide +kernel
theorem dX4_mask_15 : decode cX4_mask 15 = .ok (.invokevirtual 69, 3) := by decide +kernel
theorem dX4_mask_18 : decode cX4_mask 18 = .ok (.ifCond .ne 9, 3) := by decide +kernel
theorem dX4_mask_21 : decode cX4_mask 21 = .ok (.aload_n 0, 1) := by decide +kernel
theorem dX4_mask_22 : decode cX4_mask 22 = .ok (.iconst (-1), 1) := by decide +kernel
theorem dX4_mask_23 : decode cX4_mask 23 = .ok (.invokevirtual 54, 3) := by decide +kernel
theorem dX4_mask_26 : decode cX4_mask 26 = .ok (.ireturn, 1) := by decide +kernel
theorem dX4_mask_27 : decode cX4_mask 27 = .ok (.aload 4, 2) := by decide +kernel
theorem dX4_mask_29 : decode cX4_mask 29 = .ok (.getfield 73, 3) := by decide +kernel
theorem dX4_mask_32 : decode cX4_mask 32 = .ok (.iconst 2, 1) := by decide +kernel
theorem dX4_mask_33 : decode cX4_mask 33 = .ok (.if_icmp .eq 10, 3) := by decide +kernel
theorem dX4_mask_36 : decode cX4_mask 36 = .ok (.aload_n 0, 1) := by decide +kernel
theorem dX4_mask_37 : decode cX4_mask 37 = .ok (.bipush (-2), 2) := by decide +kernel
theorem dX4_mask_39 : decode cX4_mask 39 = .ok (.invokevirtual 54, 3) := by decide +kernel
theorem dX4_mask_42 : decode cX4_mask 42 = .ok (.ireturn, 1) := by decide +kernel
theorem dX4_mask_43 : decode cX4_mask 43 = .ok (.iload_n 3, 1) := by decide +kernel
theorem dX4_mask_44 : decode cX4_mask 44 = .ok (.ifCond .lt 12, 3) := by decide +kernel
theorem dX4_mask_47 : decode cX4_mask 47 = .ok (.iload_n 3, 1) := by decide +kernel
theorem dX4_mask_48 : decode cX4_mask 48 = .ok (.aload 4, 2) := by decide +kernel
theorem dX4_mask_50 : decode cX4_mask 50 = .ok (.getfield 79, 3) := by decide +kernel
theorem dX4_mask_53 : decode cX4_mask 53 = .ok (.if_icmp .lt 10, 3) := by decide +kernel
theorem dX4_mask_56 : decode cX4_mask 56 = .ok (.aload_n 0, 1) := by decide +kernel
theorem dX4_mask_57 : decode cX4_mask 57 = .ok (.bipush (-3), 2) := by decide +kernel
theorem dX4_mask_59 : decode cX4_mask 59 = .ok (.invokevirtual 54, 3) := by decide +kernel
theorem dX4_mask_62 : decode cX4_mask 62 = .ok (.ireturn, 1) := by decide +kernel
theorem dX4_mask_63 : decode cX4_mask 63 = .ok (.aload 4, 2) := by decide +kernel
theorem dX4_mask_65 : decode cX4_mask 65 = .ok (.getfield 115, 3) := by decide +kernel
theorem dX4_mask_68 : decode cX4_mask 68 = .ok (.iload_n 2, 1) := by decide +kernel
theorem dX4_mask_69 : decode cX4_mask 69 = .ok (.iaload, 1) := by decide +kernel
theorem dX4_mask_70 : decode cX4_mask 70 = .ok (.istore 5, 2) := by decide +kernel
theorem dX4_mask_72 : decode cX4_mask 72 = .ok (.aload 4, 2) := by decide +kernel
theorem dX4_mask_74 : decode cX4_mask 74 = .ok (.getfield 115, 3) := by decide +kernel
theorem dX4_mask_77 : decode cX4_mask 77 = .ok (.iload_n 2, 1) := by decide +kernel
theorem dX4_mask_78 : decode cX4_mask 78 = .ok (.iload_n 3, 1) := by decide +kernel
theorem dX4_mask_79 : decode cX4_mask 79 = .ok (.iastore, 1) := by decide +kernel
theorem dX4_mask_80 : decode cX4_mask 80 = .ok (.aload 4, 2) := by decide +kernel
theorem dX4_mask_82 : decode cX4_mask 82 = .ok (.iload_n 2, 1) := by decide +kernel
theorem dX4_mask_83 : decode cX4_mask 83 = .ok (.invokevirtual 89, 3) := by decide +kernel
theorem dX4_mask_86 : decode cX4_mask 86 = .ok (.iload 5, 2) := by decide +kernel
theorem dX4_mask_88 : decode cX4_mask 88 = .ok (.ireturn, 1) := by decide +kernel
theorem dX4_grid_0 : decode cX4_grid 0 = .ok (.iload_n 1, 1) := by decide +kernel
theorem dX4_grid_1 : decode cX4_grid 1 = .ok (.iconst 1, 1) := by decide +kernel
theorem dX4_grid_2 : decode cX4_grid 2 = .ok (.if_icmp .lt 8, 3) := by decide +kernel
theorem dX4_grid_5 : decode cX4_grid 5 = .ok (.iload_n 2, 1) := by decide +kernel
theorem dX4_grid_6 : decode cX4_grid 6 = .ok (.iconst 1, 1) := by decide +kernel
theorem dX4_grid_7 : decode cX4_grid 7 = .ok (.if_icmp .ge 10, 3) := by decide +kernel
theorem dX4_grid_10 : decode cX4_grid 10 = .ok (.aload_n 0, 1) := by decide +kernel
theorem dX4_grid_11 : decode cX4_grid 11 = .ok (.bipush (-4), 2) := by decide +kernel
theorem dX4_grid_13 : decode cX4_grid 13 = .ok (.invokevirtual 54, 3) := by decide +kernel
theorem dX4_grid_16 : decode cX4_grid 16 = .ok (.ireturn, 1) := by decide +kernel
theorem dX4_grid_17 : decode cX4_grid 17 = .ok (.iload_n 1, 1) := by decide +kernel
theorem dX4_grid_18 : decode cX4_grid 18 = .ok (.sipush 256, 3) := by decide +kernel
theorem dX4_grid_21 : decode cX4_grid 21 = .ok (.if_icmp .gt 18, 3) := by decide +kernel
theorem dX4_grid_24 : decode cX4_grid 24 = .ok (.iload_n 2, 1) := by decide +kernel
theorem dX4_grid_25 : decode cX4_grid 25 = .ok (.bipush 6, 2) := by decide +kernel
theorem dX4_grid_27 : decode cX4_grid 27 = .ok (.if_icmp .gt 12, 3) := by decide +kernel
theorem dX4_grid_30 : decode cX4_grid 30 = .ok (.aload_n 0, 1) := by decide +kernel
theorem dX4_grid_31 : decode cX4_grid 31 = .ok (.getfield 43, 3) := by decide +kernel
theorem dX4_grid_34 : decode cX4_grid 34 = .ok (.bipush 12, 2) := by decide +kernel
theorem dX4_grid_36 : decode cX4_grid 36 = .ok (.if_icmp .lt 10, 3) := by decide +kernel
theorem dX4_grid_39 : decode cX4_grid 39 = .ok (.aload_n 0, 1) := by decide +kernel
theorem dX4_grid_40 : decode cX4_grid 40 = .ok (.bipush (-6), 2) := by decide +kernel
theorem dX4_grid_42 : decode cX4_grid 42 = .ok (.invokevirtual 54, 3) := by decide +kernel
theorem dX4_grid_45 : decode cX4_grid 45 = .ok (.ireturn, 1) := by decide +kernel
theorem dX4_grid_46 : decode cX4_grid 46 = .ok (.aload_n 0, 1) := by decide +kernel
theorem dX4_grid_47 : decode cX4_grid 47 = .ok (.new 9, 3) := by decide +kernel
theorem dX4_grid_50 : decode cX4_grid 50 = .ok (.dup, 1) := by decide +kernel
theorem dX4_grid_51 : decode cX4_grid 51 = .ok (.iconst 3, 1) := by decide +kernel
theorem dX4_grid_52 : decode cX4_grid 52 = .ok (.iload_n 2, 1) := by decide +kernel
theorem dX4_grid_53 : decode cX4_grid 53 = .ok (.iconst (-1), 1) := by decide +kernel
theorem dX4_grid_54 : decode cX4_grid 54 = .ok (.iload_n 1, 1) := by decide +kernel
theorem dX4_grid_55 : decode cX4_grid 55 = .ok (.invokespecial 58, 3) := by decide +kernel
theorem dX4_grid_58 : decode cX4_grid 58 = .ok (.invokevirtual 61, 3) := by decide +kernel
theorem dX4_grid_61 : decode cX4_grid 61 = .ok (.ireturn, 1) := by decide +kernel
theorem dX4_step_0 : decode cX4_step 0 = .ok (.aload_n 0, 1) := by decide +kernel
theorem dX4_step_1 : decode cX4_step 1 = .ok (.iload_n 1, 1) := by decide +kernel
theorem dX4_step_2 : decode cX4_step 2 = .ok (.invokevirtual 65, 3) := by decide +kernel
theorem dX4_step_5 : decode cX4_step 5 = .ok (.astore 4, 2) := by decide +kernel
theorem dX4_step_7 : decode cX4_step 7 = .ok (.aload 4, 2) := by decide +kernel
theorem dX4_step_9 : decode cX4_step 9 = .ok (.ifnull 12, 3) := by decide +kernel
theorem dX4_step_12 : decode cX4_step 12 = .ok (.aload 4, 2) := by decide +kernel
theorem dX4_step_14 : decode cX4_step 14 = .ok (.iload_n 2, 1) := by decide +kernel
theorem dX4_step_15 : decode cX4_step 15 = .ok (.invokevirtual 69, 3) := by decide +kernel
theorem dX4_step_18 : decode cX4_step 18 = .ok (.ifCond .ne 9, 3) := by decide +kernel
theorem dX4_step_21 : decode cX4_step 21 = .ok (.aload_n 0, 1) := by decide +kernel
theorem dX4_step_22 : decode cX4_step 22 = .ok (.iconst (-1), 1) := by decide +kernel
theorem dX4_step_23 : decode cX4_step 23 = .ok (.invokevirtual 54, 3) := by decide +kernel
theorem dX4_step_26 : decode cX4_step 26 = .ok (.ireturn, 1) := by decide +kernel
theorem dX4_step_27 : decode cX4_step 27 = .ok (.aload 4, 2) := by decide +kernel
theorem dX4_step_29 : decode cX4_step 29 = .ok (.getfield 73, 3) := by decide +kernel
theorem dX4_step_32 : decode cX4_step 32 = .ok (.iconst 3, 1) := by decide +kernel
theorem dX4_step_33 : decode cX4_step 33 = .ok (.if_icmp .eq 10, 3) := by decide +kernel
theorem dX4_step_36 : decode cX4_step 36 = .ok (.aload_n 0, 1) := by decide +kernel
theorem dX4_step_37 : decode cX4_step 37 = .ok (.bipush (-2), 2) := by decide +kernel
theorem dX4_step_39 : decode cX4_step 39 = .ok (.invokevirtual 54, 3) := by decide +kernel
theorem dX4_step_42 : decode cX4_step 42 = .ok (.ireturn, 1) := by decide +kernel
theorem dX4_step_43 : decode cX4_step 43 = .ok (.iload_n 3, 1) := by decide +kernel
theorem dX4_step_44 : decode cX4_step 44 = .ok (.ifCond .lt 12, 3) := by decide +kernel
theorem dX4_step_47 : decode cX4_step 47 = .ok (.iload_n 3, 1) := by decide +kernel
theorem dX4_step_48 : decode cX4_step 48 = .ok (.aload 4, 2) := by decide +kernel
theorem dX4_step_50 : decode cX4_step 50 = .ok (.getfield 79, 3) := by decide +kernel
theorem dX4_step_53 : decode cX4_step 53 = .ok (.if_icmp .lt 10, 3) := by decide +kernel
theorem dX4_step_56 : decode cX4_step 56 = .ok (.aload_n 0, 1) := by decide +kernel
theorem dX4_step_57 : decode cX4_step 57 = .ok (.bipush (-3), 2) := by decide +kernel
theorem dX4_step_59 : decode cX4_step 59 = .ok (.invokevirtual 54, 3) := by decide +kernel
theorem dX4_step_62 : decode cX4_step 62 = .ok (.ireturn, 1) := by decide +kernel
theorem dX4_step_63 : decode cX4_step 63 = .ok (.aload 4, 2) := by decide +kernel
theorem dX4_step_65 : decode cX4_step 65 = .ok (.getfield 118, 3) := by decide +kernel
theorem dX4_step_68 : decode cX4_step 68 = .ok (.iload_n 2, 1) := by decide +kernel
theorem dX4_step_69 : decode cX4_step 69 = .ok (.iaload, 1) := by decide +kernel
theorem dX4_step_70 : decode cX4_step 70 = .ok (.istore 5, 2) := by decide +kernel
theorem dX4_step_72 : decode cX4_step 72 = .ok (.aload 4, 2) := by decide +kernel
theorem dX4_step_74 : decode cX4_step 74 = .ok (.getfield 118, 3) := by decide +kernel
theorem dX4_step_77 : decode cX4_step 77 = .ok (.iload_n 2, 1) := by decide +kernel
theorem dX4_step_78 : decode cX4_step 78 = .ok (.iload_n 3, 1) := by decide +kernel
theorem dX4_step_79 : decode cX4_step 79 = .ok (.iastore, 1) := by decide +kernel
theorem dX4_step_80 : decode cX4_step 80 = .ok (.aload 4, 2) := by decide +kernel
theorem dX4_step_82 : decode cX4_step 82 = .ok (.iload_n 2, 1) := by decide +kernel
theorem dX4_step_83 : decode cX4_step 83 = .ok (.invokevirtual 121, 3) := by decide +kernel
theorem dX4_step_86 : decode cX4_step 86 = .ok (.iload 5, 2) := by decide +kernel
theorem dX4_step_88 : decode cX4_step 88 = .ok (.ireturn, 1) := by decide +kernel
theorem dX4_lots_0 : decode cX4_lots 0 = .ok (.aload_n 0, 1) := by decide +kernel
theorem dX4_lots_1 : decode cX4_lots 1 = .ok (.iload_n 1, 1) := by decide +kernel
theorem dX4_lots_2 : decode cX4_lots 2 = .ok (.iload_n 2, 1) := by decide +kernel
theorem dX4_lots_3 : decode cX4_lots 3 = .ok (.invokevirtual 50, 3) := by decide +kernel
theorem dX4_lots_6 : decode cX4_lots 6 = .ok (.istore 5, 2) := by decide +kernel
theorem dX4_lots_8 : decode cX4_lots 8 = .ok (.iload 5, 2) := by decide +kernel
theorem dX4_lots_10 : decode cX4_lots 10 = .ok (.ifCond .eq 10, 3) := by decide +kernel
theorem dX4_lots_13 : decode cX4_lots 13 = .ok (.aload_n 0, 1) := by decide +kernel
theorem dX4_lots_14 : decode cX4_lots 14 = .ok (.iload 5, 2) := by decide +kernel
theorem dX4_lots_16 : decode cX4_lots 16 = .ok (.invokevirtual 54, 3) := by decide +kernel
theorem dX4_lots_19 : decode cX4_lots 19 = .ok (.ireturn, 1) := by decide +kernel
theorem dX4_lots_20 : decode cX4_lots 20 = .ok (.new 9, 3) := by decide +kernel
theorem dX4_lots_23 : decode cX4_lots 23 = .ok (.dup, 1) := by decide +kernel
theorem dX4_lots_24 : decode cX4_lots 24 = .ok (.iconst 4, 1) := by decide +kernel
theorem dX4_lots_25 : decode cX4_lots 25 = .ok (.iload_n 1, 1) := by decide +kernel
theorem dX4_lots_26 : decode cX4_lots 26 = .ok (.iload_n 2, 1) := by decide +kernel
theorem dX4_lots_27 : decode cX4_lots 27 = .ok (.iconst 1, 1) := by decide +kernel
theorem dX4_lots_28 : decode cX4_lots 28 = .ok (.iload_n 2, 1) := by decide +kernel
theorem dX4_lots_29 : decode cX4_lots 29 = .ok (.ishl, 1) := by decide +kernel
theorem dX4_lots_30 : decode cX4_lots 30 = .ok (.invokespecial 58, 3) := by decide +kernel
theorem dX4_lots_33 : decode cX4_lots 33 = .ok (.astore 6, 2) := by decide +kernel
theorem dX4_lots_35 : decode cX4_lots 35 = .ok (.aload 6, 2) := by decide +kernel
theorem dX4_lots_37 : decode cX4_lots 37 = .ok (.lload_n 3, 1) := by decide +kernel
theorem dX4_lots_38 : decode cX4_lots 38 = .ok (.invokevirtual 124, 3) := by decide +kernel
theorem dX4_lots_41 : decode cX4_lots 41 = .ok (.aload_n 0, 1) := by decide +kernel
theorem dX4_lots_42 : decode cX4_lots 42 = .ok (.aload 6, 2) := by decide +kernel
theorem dX4_lots_44 : decode cX4_lots 44 = .ok (.invokevirtual 61, 3) := by decide +kernel
theorem dX4_lots_47 : decode cX4_lots 47 = .ok (.ireturn, 1) := by decide +kernel
theorem dX4_scatter_0 : decode cX4_scatter 0 = .ok (.aload_n 0, 1) := by decide +kernel
theorem dX4_scatter_1 : decode cX4_scatter 1 = .ok (.iload_n 1, 1) := by decide +kernel
theorem dX4_scatter_2 : decode cX4_scatter 2 = .ok (.invokevirtual 65, 3) := by decide +kernel
theorem dX4_scatter_5 : decode cX4_scatter 5 = .ok (.astore_n 3, 1) := by decide +kernel
theorem dX4_scatter_6 : decode cX4_scatter 6 = .ok (.aload_n 3, 1) := by decide +kernel
theorem dX4_scatter_7 : decode cX4_scatter 7 = .ok (.ifnonnull 9, 3) := by decide +kernel
theorem dX4_scatter_10 : decode cX4_scatter 10 = .ok (.aload_n 0, 1) := by decide +kernel
theorem dX4_scatter_11 : decode cX4_scatter 11 = .ok (.iconst (-1), 1) := by decide +kernel
theorem dX4_scatter_12 : decode cX4_scatter 12 = .ok (.invokevirtual 54, 3) := by decide +kernel
theorem dX4_scatter_15 : decode cX4_scatter 15 = .ok (.ireturn, 1) := by decide +kernel
theorem dX4_scatter_16 : decode cX4_scatter 16 = .ok (.iload_n 2, 1) := by decide +kernel
theorem dX4_scatter_17 : decode cX4_scatter 17 = .ok (.tableswitch 60 0 4 #[35, 40, 45, 50, 55], 35) := by decide +kernel
theorem dX4_scatter_52 : decode cX4_scatter 52 = .ok (.aload_n 3, 1) := by decide +kernel
theorem dX4_scatter_53 : decode cX4_scatter 53 = .ok (.getfield 73, 3) := by decide +kernel
theorem dX4_scatter_56 : decode cX4_scatter 56 = .ok (.ireturn, 1) := by decide +kernel
theorem dX4_scatter_57 : decode cX4_scatter 57 = .ok (.aload_n 3, 1) := by decide +kernel
theorem dX4_scatter_58 : decode cX4_scatter 58 = .ok (.getfield 93, 3) := by decide +kernel
theorem dX4_scatter_61 : decode cX4_scatter 61 = .ok (.ireturn, 1) := by decide +kernel
theorem dX4_scatter_62 : decode cX4_scatter 62 = .ok (.aload_n 3, 1) := by decide +kernel
theorem dX4_scatter_63 : decode cX4_scatter 63 = .ok (.getfield 79, 3) := by decide +kernel
theorem dX4_scatter_66 : decode cX4_scatter 66 = .ok (.ireturn, 1) := by decide +kernel
theorem dX4_scatter_67 : decode cX4_scatter 67 = .ok (.aload_n 3, 1) := by decide +kernel
theorem dX4_scatter_68 : decode cX4_scatter 68 = .ok (.getfield 76, 3) := by decide +kernel
theorem dX4_scatter_71 : decode cX4_scatter 71 = .ok (.ireturn, 1) := by decide +kernel
theorem dX4_scatter_72 : decode cX4_scatter 72 = .ok (.aload_n 3, 1) := by decide +kernel
theorem dX4_scatter_73 : decode cX4_scatter 73 = .ok (.getfield 128, 3) := by decide +kernel
theorem dX4_scatter_76 : decode cX4_scatter 76 = .ok (.ireturn, 1) := by decide +kernel
theorem dX4_scatter_77 : decode cX4_scatter 77 = .ok (.aload_n 0, 1) := by decide +kernel
theorem dX4_scatter_78 : decode cX4_scatter 78 = .ok (.bipush (-2), 2) := by decide +kernel
theorem dX4_scatter_80 : decode cX4_scatter 80 = .ok (.invokevirtual 54, 3) := by decide +kernel
theorem dX4_scatter_83 : decode cX4_scatter 83 = .ok (.ireturn, 1) := by decide +kernel
theorem dX4_part_0 : decode cX4_part 0 = .ok (.aload_n 0, 1) := by decide +kernel
theorem dX4_part_1 : decode cX4_part 1 = .ok (.iload_n 1, 1) := by decide +kernel
theorem dX4_part_2 : decode cX4_part 2 = .ok (.invokevirtual 65, 3) := by decide +kernel
theorem dX4_part_5 : decode cX4_part 5 = .ok (.astore 4, 2) := by decide +kernel
theorem dX4_part_7 : decode cX4_part 7 = .ok (.aload 4, 2) := by decide +kernel
theorem dX4_part_9 : decode cX4_part 9 = .ok (.ifnull 25, 3) := by decide +kernel
theorem dX4_part_12 : decode cX4_part 12 = .ok (.iload_n 2, 1) := by decide +kernel
theorem dX4_part_13 : decode cX4_part 13 = .ok (.ifCond .lt 21, 3) := by decide +kernel
theorem dX4_part_16 : decode cX4_part 16 = .ok (.iload_n 2, 1) := by decide +kernel
theorem dX4_part_17 : decode cX4_part 17 = .ok (.aload 4, 2) := by decide +kernel
theorem dX4_part_19 : decode cX4_part 19 = .ok (.getfield 79, 3) := by decide +kernel
theorem dX4_part_22 : decode cX4_part 22 = .ok (.if_icmp .ge 12, 3) := by decide +kernel
theorem dX4_part_25 : decode cX4_part 25 = .ok (.aload 4, 2) := by decide +kernel
theorem dX4_part_27 : decode cX4_part 27 = .ok (.iload_n 3, 1) := by decide +kernel
theorem dX4_part_28 : decode cX4_part 28 = .ok (.invokevirtual 69, 3) := by decide +kernel
theorem dX4_part_31 : decode cX4_part 31 = .ok (.ifCond .ne 9, 3) := by decide +kernel
theorem dX4_part_34 : decode cX4_part 34 = .ok (.aload_n 0, 1) := by decide +kernel
theorem dX4_part_35 : decode cX4_part 35 = .ok (.iconst (-1), 1) := by decide +kernel
theorem dX4_part_36 : decode cX4_part 36 = .ok (.invokevirtual 54, 3) := by decide +kernel
theorem dX4_part_39 : decode cX4_part 39 = .ok (.ireturn, 1) := by decide +kernel
theorem dX4_part_40 : decode cX4_part 40 = .ok (.aload 4, 2) := by decide +kernel
theorem dX4_part_42 : decode cX4_part 42 = .ok (.iload_n 2, 1) := by decide +kernel
theorem dX4_part_43 : decode cX4_part 43 = .ok (.iload_n 3, 1) := by decide +kernel
theorem dX4_part_44 : decode cX4_part 44 = .ok (.invokevirtual 131, 3) := by decide +kernel
theorem dX4_part_47 : decode cX4_part 47 = .ok (.ireturn, 1) := by decide +kernel
theorem dX4_next_0 : decode cX4_next 0 = .ok (.aload_n 0, 1) := by decide +kernel
theorem dX4_next_1 : decode cX4_next 1 = .ok (.iload_n 1, 1) := by decide +kernel
theorem dX4_next_2 : decode cX4_next 2 = .ok (.invokevirtual 65, 3) := by decide +kernel
theorem dX4_next_5 : decode cX4_next 5 = .ok (.astore_n 2, 1) := by decide +kernel
theorem dX4_next_6 : decode cX4_next 6 = .ok (.aload_n 2, 1) := by decide +kernel
theorem dX4_next_7 : decode cX4_next 7 = .ok (.ifnonnull 9, 3) := by decide +kernel
theorem dX4_next_10 : decode cX4_next 10 = .ok (.aload_n 0, 1) := by decide +kernel
theorem dX4_next_11 : decode cX4_next 11 = .ok (.iconst (-1), 1) := by decide +kernel
theorem dX4_next_12 : decode cX4_next 12 = .ok (.invokevirtual 54, 3) := by decide +kernel
theorem dX4_next_15 : decode cX4_next 15 = .ok (.ireturn, 1) := by decide +kernel
theorem dX4_next_16 : decode cX4_next 16 = .ok (.aload_n 2, 1) := by decide +kernel
theorem dX4_next_17 : decode cX4_next 17 = .ok (.getfield 128, 3) := by decide +kernel
theorem dX4_next_20 : decode cX4_next 20 = .ok (.ldc 134, 2) := by decide +kernel
theorem dX4_next_22 : decode cX4_next 22 = .ok (.if_icmp .lt 10, 3) := by decide +kernel
theorem dX4_next_25 : decode cX4_next 25 = .ok (.aload_n 0, 1) := by decide +kernel
theorem dX4_next_26 : decode cX4_next 26 = .ok (.bipush (-6), 2) := by decide +kernel
theorem dX4_next_28 : decode cX4_next 28 = .ok (.invokevirtual 54, 3) := by decide +kernel
theorem dX4_next_31 : decode cX4_next 31 = .ok (.ireturn, 1) := by decide +kernel
theorem dX4_next_32 : decode cX4_next 32 = .ok (.aload_n 2, 1) := by decide +kernel
theorem dX4_next_33 : decode cX4_next 33 = .ok (.invokevirtual 135, 3) := by decide +kernel
theorem dX4_next_36 : decode cX4_next 36 = .ok (.istore_n 3, 1) := by decide +kernel
theorem dX4_next_37 : decode cX4_next 37 = .ok (.aload_n 2, 1) := by decide +kernel
theorem dX4_next_38 : decode cX4_next 38 = .ok (.dup, 1) := by decide +kernel
theorem dX4_next_39 : decode cX4_next 39 = .ok (.getfield 128, 3) := by decide +kernel
theorem dX4_next_42 : decode cX4_next 42 = .ok (.iconst 1, 1) := by decide +kernel
theorem dX4_next_43 : decode cX4_next 43 = .ok (.iadd, 1) := by decide +kernel
theorem dX4_next_44 : decode cX4_next 44 = .ok (.putfield 128, 3) := by decide +kernel
theorem dX4_next_47 : decode cX4_next 47 = .ok (.aload_n 0, 1) := by decide +kernel
theorem dX4_next_48 : decode cX4_next 48 = .ok (.dup, 1) := by decide +kernel
theorem dX4_next_49 : decode cX4_next 49 = .ok (.getfield 47, 3) := by decide +kernel
theorem dX4_next_52 : decode cX4_next 52 = .ok (.iconst 1, 1) := by decide +kernel
theorem dX4_next_53 : decode cX4_next 53 = .ok (.iadd, 1) := by decide +kernel
theorem dX4_next_54 : decode cX4_next 54 = .ok (.putfield 47, 3) := by decide +kernel
theorem dX4_next_57 : decode cX4_next 57 = .ok (.iload_n 3, 1) := by decide +kernel
theorem dX4_next_58 : decode cX4_next 58 = .ok (.ireturn, 1) := by decide +kernel
theorem dX4_skip_0 : decode cX4_skip 0 = .ok (.aload_n 0, 1) := by decide +kernel
theorem dX4_skip_1 : decode cX4_skip 1 = .ok (.iload_n 1, 1) := by decide +kernel
theorem dX4_skip_2 : decode cX4_skip 2 = .ok (.invokevirtual 65, 3) := by decide +kernel
theorem dX4_skip_5 : decode cX4_skip 5 = .ok (.astore_n 3, 1) := by decide +kernel
theorem dX4_skip_6 : decode cX4_skip 6 = .ok (.aload_n 3, 1) := by decide +kernel
theorem dX4_skip_7 : decode cX4_skip 7 = .ok (.ifnonnull 9, 3) := by decide +kernel
theorem dX4_skip_10 : decode cX4_skip 10 = .ok (.aload_n 0, 1) := by decide +kernel
theorem dX4_skip_11 : decode cX4_skip 11 = .ok (.iconst (-1), 1) := by decide +kernel
theorem dX4_skip_12 : decode cX4_skip 12 = .ok (.invokevirtual 54, 3) := by decide +kernel
theorem dX4_skip_15 : decode cX4_skip 15 = .ok (.ireturn, 1) := by decide +kernel
theorem dX4_skip_16 : decode cX4_skip 16 = .ok (.iload_n 2, 1) := by decide +kernel
theorem dX4_skip_17 : decode cX4_skip 17 = .ok (.ifCond .ge 10, 3) := by decide +kernel
theorem dX4_skip_20 : decode cX4_skip 20 = .ok (.aload_n 0, 1) := by decide +kernel
theorem dX4_skip_21 : decode cX4_skip 21 = .ok (.bipush (-4), 2) := by decide +kernel
theorem dX4_skip_23 : decode cX4_skip 23 = .ok (.invokevirtual 54, 3) := by decide +kernel
theorem dX4_skip_26 : decode cX4_skip 26 = .ok (.ireturn, 1) := by decide +kernel
theorem dX4_skip_27 : decode cX4_skip 27 = .ok (.iload_n 2, 1) := by decide +kernel
theorem dX4_skip_28 : decode cX4_skip 28 = .ok (.ldc 134, 2) := by decide +kernel
theorem dX4_skip_30 : decode cX4_skip 30 = .ok (.if_icmp .le 10, 3) := by decide +kernel
theorem dX4_skip_33 : decode cX4_skip 33 = .ok (.aload_n 0, 1) := by decide +kernel
theorem dX4_skip_34 : decode cX4_skip 34 = .ok (.bipush (-6), 2) := by decide +kernel
theorem dX4_skip_36 : decode cX4_skip 36 = .ok (.invokevirtual 54, 3) := by decide +kernel
theorem dX4_skip_39 : decode cX4_skip 39 = .ok (.ireturn, 1) := by decide +kernel
theorem dX4_skip_40 : decode cX4_skip 40 = .ok (.aload_n 3, 1) := by decide +kernel
theorem dX4_skip_41 : decode cX4_skip 41 = .ok (.getfield 128, 3) := by decide +kernel
theorem dX4_skip_44 : decode cX4_skip 44 = .ok (.istore 4, 2) := by decide +kernel
theorem dX4_skip_46 : decode cX4_skip 46 = .ok (.aload_n 3, 1) := by decide +kernel
theorem dX4_skip_47 : decode cX4_skip 47 = .ok (.iload_n 2, 1) := by decide +kernel
theorem dX4_skip_48 : decode cX4_skip 48 = .ok (.putfield 128, 3) := by decide +kernel
theorem dX4_skip_51 : decode cX4_skip 51 = .ok (.iload 4, 2) := by decide +kernel
theorem dX4_skip_53 : decode cX4_skip 53 = .ok (.ireturn, 1) := by decide +kernel
theorem dX4_side_0 : decode cX4_side 0 = .ok (.iload_n 1, 1) := by decide +kernel
theorem dX4_side_1 : decode cX4_side 1 = .ok (.ifCond .lt 9, 3) := by decide +kernel
theorem dX4_side_4 : decode cX4_side 4 = .ok (.iload_n 1, 1) := by decide +kernel
theorem dX4_side_5 : decode cX4_side 5 = .ok (.bipush 6, 2) := by decide +kernel
theorem dX4_side_7 : decode cX4_side 7 = .ok (.if_icmp .lt 9, 3) := by decide +kernel
theorem dX4_side_10 : decode cX4_side 10 = .ok (.aload_n 0, 1) := by decide +kernel
theorem dX4_side_11 : decode cX4_side 11 = .ok (.iconst (-1), 1) := by decide +kernel
theorem dX4_side_12 : decode cX4_side 12 = .ok (.invokevirtual 54, 3) := by decide +kernel
theorem dX4_side_15 : decode cX4_side 15 = .ok (.ireturn, 1) := by decide +kernel
theorem dX4_side_16 : decode cX4_side 16 = .ok (.aload_n 0, 1) := by decide +kernel
theorem dX4_side_17 : decode cX4_side 17 = .ok (.getfield 18, 3) := by decide +kernel
theorem dX4_side_20 : decode cX4_side 20 = .ok (.getfield 139, 3) := by decide +kernel
