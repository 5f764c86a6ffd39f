theorem dX0_init_0 : decode cX0_init 0 = .ok (.aload_n 0, 1) := by decide +kernel
theorem dX0_init_1 : decode cX0_init 1 = .ok (.invokespecial 3, 3) := by decide +kernel
theorem dX0_init_4 : decode cX0_init 4 = .ok (.aload_n 0, 1) := by decide +kernel
theorem dX0_init_5 : decode cX0_init 5 = .ok (.iconst 4, 1) := by decide +kernel
theorem dX0_init_6 : decode cX0_init 6 = .ok (.newarray .int, 2) := by decide +kernel
theorem dX0_init_8 : decode cX0_init 8 = .ok (.putfield 9, 3) := by decide +kernel
theorem dX0_init_11 : decode cX0_init 11 = .ok (.aload_n 0, 1) := by decide +kernel
theorem dX0_init_12 : decode cX0_init 12 = .ok (.bipush 20, 2) := by decide +kernel
theorem dX0_init_14 : decode cX0_init 14 = .ok (.newarray .int, 2) := by decide +kernel
theorem dX0_init_16 : decode cX0_init 16 = .ok (.putfield 15, 3) := by decide +kernel
theorem dX0_init_19 : decode cX0_init 19 = .ok (.aload_n 0, 1) := by decide +kernel
theorem dX0_init_20 : decode cX0_init 20 = .ok (.iconst 4, 1) := by decide +kernel
theorem dX0_init_21 : decode cX0_init 21 = .ok (.newarray .int, 2) := by decide +kernel
theorem dX0_init_23 : decode cX0_init 23 = .ok (.putfield 18, 3) := by decide +kernel
theorem dX0_init_26 : decode cX0_init 26 = .ok (.aload_n 0, 1) := by decide +kernel
theorem dX0_init_27 : decode cX0_init 27 = .ok (.aload_n 1, 1) := by decide +kernel
theorem dX0_init_28 : decode cX0_init 28 = .ok (.putfield 21, 3) := by decide +kernel
theorem dX0_init_31 : decode cX0_init 31 = .ok (.aload_n 0, 1) := by decide +kernel
theorem dX0_init_32 : decode cX0_init 32 = .ok (.aload_n 2, 1) := by decide +kernel
theorem dX0_init_33 : decode cX0_init 33 = .ok (.putfield 25, 3) := by decide +kernel
theorem dX0_init_36 : decode cX0_init 36 = .ok (.return_, 1) := by decide +kernel
theorem dX0_weighAll_0 : decode cX0_weighAll 0 = .ok (.aload_n 0, 1) := by decide +kernel
theorem dX0_weighAll_1 : decode cX0_weighAll 1 = .ok (.iconst 0, 1) := by decide +kernel
theorem dX0_weighAll_2 : decode cX0_weighAll 2 = .ok (.putfield 29, 3) := by decide +kernel
theorem dX0_weighAll_5 : decode cX0_weighAll 5 = .ok (.aload_n 0, 1) := by decide +kernel
theorem dX0_weighAll_6 : decode cX0_weighAll 6 = .ok (.bipush (-9), 2) := by decide +kernel
theorem dX0_weighAll_8 : decode cX0_weighAll 8 = .ok (.putfield 33, 3) := by decide +kernel
theorem dX0_weighAll_11 : decode cX0_weighAll 11 = .ok (.aload_n 0, 1) := by decide +kernel
theorem dX0_weighAll_12 : decode cX0_weighAll 12 = .ok (.bipush (-9), 2) := by decide +kernel
theorem dX0_weighAll_14 : decode cX0_weighAll 14 = .ok (.putfield 36, 3) := by decide +kernel
theorem dX0_weighAll_17 : decode cX0_weighAll 17 = .ok (.aload_n 0, 1) := by decide +kernel
theorem dX0_weighAll_18 : decode cX0_weighAll 18 = .ok (.iconst 0, 1) := by decide +kernel
theorem dX0_weighAll_19 : decode cX0_weighAll 19 = .ok (.putfield 39, 3) := by decide +kernel
theorem dX0_weighAll_22 : decode cX0_weighAll 22 = .ok (.aload_n 0, 1) := by decide +kernel
theorem dX0_weighAll_23 : decode cX0_weighAll 23 = .ok (.iconst 0, 1) := by decide +kernel
theorem dX0_weighAll_24 : decode cX0_weighAll 24 = .ok (.putfield 42, 3) := by decide +kernel
theorem dX0_weighAll_27 : decode cX0_weighAll 27 = .ok (.aload_n 0, 1) := by decide +kernel
theorem dX0_weighAll_28 : decode cX0_weighAll 28 = .ok (.iconst 0, 1) := by decide +kernel
theorem dX0_weighAll_29 : decode cX0_weighAll 29 = .ok (.putfield 45, 3) := by decide +kernel
theorem dX0_weighAll_32 : decode cX0_weighAll 32 = .ok (.aload_n 0, 1) := by decide +kernel
theorem dX0_weighAll_33 : decode cX0_weighAll 33 = .ok (.getfield 15, 3) := by decide +kernel
theorem dX0_weighAll_36 : decode cX0_weighAll 36 = .ok (.iconst 0, 1) := by decide +kernel
theorem dX0_weighAll_37 : decode cX0_weighAll 37 = .ok (.invokestatic 48, 3) := by decide +kernel
theorem dX0_weighAll_40 : decode cX0_weighAll 40 = .ok (.aload_n 0, 1) := by decide +kernel
theorem dX0_weighAll_41 : decode cX0_weighAll 41 = .ok (.getfield 18, 3) := by decide +kernel
theorem dX0_weighAll_44 : decode cX0_weighAll 44 = .ok (.iconst 0, 1) := by decide +kernel
theorem dX0_weighAll_45 : decode cX0_weighAll 45 = .ok (.invokestatic 48, 3) := by decide +kernel
theorem dX0_weighAll_48 : decode cX0_weighAll 48 = .ok (.aload_n 0, 1) := by decide +kernel
theorem dX0_weighAll_49 : decode cX0_weighAll 49 = .ok (.getfield 21, 3) := by decide +kernel
theorem dX0_weighAll_52 : decode cX0_weighAll 52 = .ok (.getfield 54, 3) := by decide +kernel
theorem dX0_weighAll_55 : decode cX0_weighAll 55 = .ok (.invokestatic 59, 3) := by decide +kernel
theorem dX0_weighAll_58 : decode cX0_weighAll 58 = .ok (.istore_n 1, 1) := by decide +kernel
theorem dX0_weighAll_59 : decode cX0_weighAll 59 = .ok (.iconst 0, 1) := by decide +kernel
theorem dX0_weighAll_60 : decode cX0_weighAll 60 = .ok (.istore_n 2, 1) := by decide +kernel
theorem dX0_weighAll_61 : decode cX0_weighAll 61 = .ok (.iload_n 2, 1) := by decide +kernel
theorem dX0_weighAll_62 : decode cX0_weighAll 62 = .ok (.iload_n 1, 1) := by decide +kernel
theorem dX0_weighAll_63 : decode cX0_weighAll 63 = .ok (.if_icmp .ge 43, 3) := by decide +kernel
theorem dX0_weighAll_66 : decode cX0_weighAll 66 = .ok (.iload_n 2, 1) := by decide +kernel
theorem dX0_weighAll_67 : decode cX0_weighAll 67 = .ok (.aload_n 0, 1) := by decide +kernel
theorem dX0_weighAll_68 : decode cX0_weighAll 68 = .ok (.getfield 9, 3) := by decide +kernel
theorem dX0_weighAll_71 : decode cX0_weighAll 71 = .ok (.invokestatic 63, 3) := by decide +kernel
theorem dX0_weighAll_74 : decode cX0_weighAll 74 = .ok (.aload_n 0, 1) := by decide +kernel
theorem dX0_weighAll_75 : decode cX0_weighAll 75 = .ok (.aload_n 0, 1) := by decide +kernel
theorem dX0_weighAll_76 : decode cX0_weighAll 76 = .ok (.getfield 25, 3) := by decide +kernel
theorem dX0_weighAll_79 : decode cX0_weighAll 79 = .ok (.getfield 67, 3) := by decide +kernel
theorem dX0_weighAll_82 : decode cX0_weighAll 82 = .ok (.aload_n 0, 1) := by decide +kernel
theorem dX0_weighAll_83 : decode cX0_weighAll 83 = .ok (.getfield 25, 3) := by decide +kernel
theorem dX0_weighAll_86 : decode cX0_weighAll 86 = .ok (.getfield 72, 3) := by decide +kernel
theorem dX0_weighAll_89 : decode cX0_weighAll 89 = .ok (.invokevirtual 75, 3) := by decide +kernel
theorem dX0_weighAll_92 : decode cX0_weighAll 92 = .ok (.ifCond .eq 8, 3) := by decide +kernel
theorem dX0_weighAll_95 : decode cX0_weighAll 95 = .ok (.aload_n 0, 1) := by decide +kernel
theorem dX0_weighAll_96 : decode cX0_weighAll 96 = .ok (.iload_n 2, 1) := by decide +kernel
theorem dX0_weighAll_97 : decode cX0_weighAll 97 = .ok (.invokevirtual 79, 3) := by decide +kernel
theorem dX0_weighAll_100 : decode cX0_weighAll 100 = .ok (.iinc 2 1, 3) := by decide +kernel
theorem dX0_weighAll_103 : decode cX0_weighAll 103 = .ok (.goto (-42), 3) := by decide +kernel
theorem dX0_weighAll_106 : decode cX0_weighAll 106 = .ok (.return_, 1) := by decide +kernel
theorem dX0_agrees_0 : decode cX0_agrees 0 = .ok (.iload_n 1, 1) := by decide +kernel
theorem dX0_agrees_1 : decode cX0_agrees 1 = .ok (.istore_n 3, 1) := by decide +kernel
theorem dX0_agrees_2 : decode cX0_agrees 2 = .ok (.iload_n 3, 1) := by decide +kernel
theorem dX0_agrees_3 : decode cX0_agrees 3 = .ok (.iload_n 2, 1) := by decide +kernel
theorem dX0_agrees_4 : decode cX0_agrees 4 = .ok (.if_icmp .ge 34, 3) := by decide +kernel
theorem dX0_agrees_7 : decode cX0_agrees 7 = .ok (.aload_n 0, 1) := by decide +kernel
theorem dX0_agrees_8 : decode cX0_agrees 8 = .ok (.getfield 21, 3) := by decide +kernel
theorem dX0_agrees_11 : decode cX0_agrees 11 = .ok (.iload_n 3, 1) := by decide +kernel
theorem dX0_agrees_12 : decode cX0_agrees 12 = .ok (.aload_n 0, 1) := by decide +kernel
theorem dX0_agrees_13 : decode cX0_agrees 13 = .ok (.getfield 9, 3) := by decide +kernel
theorem dX0_agrees_16 : decode cX0_agrees 16 = .ok (.invokevirtual 83, 3) := by decide +kernel
theorem dX0_agrees_19 : decode cX0_agrees 19 = .ok (.aload_n 0, 1) := by decide +kernel
theorem dX0_agrees_20 : decode cX0_agrees 20 = .ok (.getfield 25, 3) := by decide +kernel
theorem dX0_agrees_23 : decode cX0_agrees 23 = .ok (.iload_n 3, 1) := by decide +kernel
theorem dX0_agrees_24 : decode cX0_agrees 24 = .ok (.invokevirtual 87, 3) := by decide +kernel
theorem dX0_agrees_27 : decode cX0_agrees 27 = .ok (.if_icmp .eq 5, 3) := by decide +kernel
theorem dX0_agrees_30 : decode cX0_agrees 30 = .ok (.iconst 0, 1) := by decide +kernel
theorem dX0_agrees_31 : decode cX0_agrees 31 = .ok (.ireturn, 1) := by decide +kernel
theorem dX0_agrees_32 : decode cX0_agrees 32 = .ok (.iinc 3 1, 3) := by decide +kernel
theorem dX0_agrees_35 : decode cX0_agrees 35 = .ok (.goto (-33), 3) := by decide +kernel
theorem dX0_agrees_38 : decode cX0_agrees 38 = .ok (.iconst 1, 1) := by decide +kernel
theorem dX0_agrees_39 : decode cX0_agrees 39 = .ok (.ireturn, 1) := by decide +kernel
theorem dX0_weigh_0 : decode cX0_weigh 0 = .ok (.iconst 1, 1) := by decide +kernel
theorem dX0_weigh_1 : decode cX0_weigh 1 = .ok (.istore_n 2, 1) := by decide +kernel
theorem dX0_weigh_2 : decode cX0_weigh 2 = .ok (.iconst 0, 1) := by decide +kernel
theorem dX0_weigh_3 : decode cX0_weigh 3 = .ok (.istore_n 3, 1) := by decide +kernel
theorem dX0_weigh_4 : decode cX0_weigh 4 = .ok (.iconst 0, 1) := by decide +kernel
theorem dX0_weigh_5 : decode cX0_weigh 5 = .ok (.istore 4, 2) := by decide +kernel
theorem dX0_weigh_7 : decode cX0_weigh 7 = .ok (.iload 4, 2) := by decide +kernel
theorem dX0_weigh_9 : decode cX0_weigh 9 = .ok (.aload_n 0, 1) := by decide +kernel
theorem dX0_weigh_10 : decode cX0_weigh 10 = .ok (.getfield 21, 3) := by decide +kernel
theorem dX0_weigh_13 : decode cX0_weigh 13 = .ok (.getfield 54, 3) := by decide +kernel
theorem dX0_weigh_16 : decode cX0_weigh 16 = .ok (.if_icmp .ge 37, 3) := by decide +kernel
theorem dX0_weigh_19 : decode cX0_weigh 19 = .ok (.iload_n 2, 1) := by decide +kernel
theorem dX0_weigh_20 : decode cX0_weigh 20 = .ok (.iconst 4, 1) := by decide +kernel
theorem dX0_weigh_21 : decode cX0_weigh 21 = .ok (.aload_n 0, 1) := by decide +kernel
theorem dX0_weigh_22 : decode cX0_weigh 22 = .ok (.getfield 9, 3) := by decide +kernel
theorem dX0_weigh_25 : decode cX0_weigh 25 = .ok (.iload 4, 2) := by decide +kernel
theorem dX0_weigh_27 : decode cX0_weigh 27 = .ok (.iaload, 1) := by decide +kernel
theorem dX0_weigh_28 : decode cX0_weigh 28 = .ok (.invokestatic 90, 3) := by decide +kernel
theorem dX0_weigh_31 : decode cX0_weigh 31 = .ok (.ishr, 1) := by decide +kernel
theorem dX0_weigh_32 : decode cX0_weigh 32 = .ok (.imul, 1) := by decide +kernel
theorem dX0_weigh_33 : decode cX0_weigh 33 = .ok (.istore_n 2, 1) := by decide +kernel
theorem dX0_weigh_34 : decode cX0_weigh 34 = .ok (.aload_n 0, 1) := by decide +kernel
theorem dX0_weigh_35 : decode cX0_weigh 35 = .ok (.getfield 9, 3) := by decide +kernel
theorem dX0_weigh_38 : decode cX0_weigh 38 = .ok (.iload 4, 2) := by decide +kernel
theorem dX0_weigh_40 : decode cX0_weigh 40 = .ok (.iaload, 1) := by decide +kernel
theorem dX0_weigh_41 : decode cX0_weigh 41 = .ok (.ifCond .eq 6, 3) := by decide +kernel
theorem dX0_weigh_44 : decode cX0_weigh 44 = .ok (.iinc 3 1, 3) := by decide +kernel
theorem dX0_weigh_47 : decode cX0_weigh 47 = .ok (.iinc 4 1, 3) := by decide +kernel
theorem dX0_weigh_50 : decode cX0_weigh 50 = .ok (.goto (-43), 3) := by decide +kernel
theorem dX0_weigh_53 : decode cX0_weigh 53 = .ok (.aload_n 0, 1) := by decide +kernel
theorem dX0_weigh_54 : decode cX0_weigh 54 = .ok (.getfield 29, 3) := by decide +kernel
theorem dX0_weigh_57 : decode cX0_weigh 57 = .ok (.ifCond .ne 8, 3) := by decide +kernel
theorem dX0_weigh_60 : decode cX0_weigh 60 = .ok (.aload_n 0, 1) := by decide +kernel
theorem dX0_weigh_61 : decode cX0_weigh 61 = .ok (.iload_n 1, 1) := by decide +kernel
theorem dX0_weigh_62 : decode cX0_weigh 62 = .ok (.putfield 33, 3) := by decide +kernel
theorem dX0_weigh_65 : decode cX0_weigh 65 = .ok (.aload_n 0, 1) := by decide +kernel
theorem dX0_weigh_66 : decode cX0_weigh 66 = .ok (.dup, 1) := by decide +kernel
theorem dX0_weigh_67 : decode cX0_weigh 67 = .ok (.getfield 29, 3) := by decide +kernel
theorem dX0_weigh_70 : decode cX0_weigh 70 = .ok (.iconst 1, 1) := by decide +kernel
theorem dX0_weigh_71 : decode cX0_weigh 71 = .ok (.iadd, 1) := by decide +kernel
theorem dX0_weigh_72 : decode cX0_weigh 72 = .ok (.putfield 29, 3) := by decide +kernel
theorem dX0_weigh_75 : decode cX0_weigh 75 = .ok (.aload_n 0, 1) := by decide +kernel
theorem dX0_weigh_76 : decode cX0_weigh 76 = .ok (.dup, 1) := by decide +kernel
theorem dX0_weigh_77 : decode cX0_weigh 77 = .ok (.getfield 42, 3) := by decide +kernel
theorem dX0_weigh_80 : decode cX0_weigh 80 = .ok (.iload_n 2, 1) := by decide +kernel
theorem dX0_weigh_81 : decode cX0_weigh 81 = .ok (.iadd, 1) := by decide +kernel
theorem dX0_weigh_82 : decode cX0_weigh 82 = .ok (.putfield 42, 3) := by decide +kernel
theorem dX0_weigh_85 : decode cX0_weigh 85 = .ok (.iload_n 3, 1) := by decide +kernel
theorem dX0_weigh_86 : decode cX0_weigh 86 = .ok (.ifCond .ne 8, 3) := by decide +kernel
theorem dX0_weigh_89 : decode cX0_weigh 89 = .ok (.aload_n 0, 1) := by decide +kernel
theorem dX0_weigh_90 : decode cX0_weigh 90 = .ok (.iload_n 2, 1) := by decide +kernel
theorem dX0_weigh_91 : decode cX0_weigh 91 = .ok (.putfield 45, 3) := by decide +kernel
theorem dX0_weigh_94 : decode cX0_weigh 94 = .ok (.iload_n 2, 1) := by decide +kernel
theorem dX0_weigh_95 : decode cX0_weigh 95 = .ok (.aload_n 0, 1) := by decide +kernel
theorem dX0_weigh_96 : decode cX0_weigh 96 = .ok (.getfield 39, 3) := by decide +kernel
theorem dX0_weigh_99 : decode cX0_weigh 99 = .ok (.if_icmp .le 13, 3) := by decide +kernel
theorem dX0_weigh_102 : decode cX0_weigh 102 = .ok (.aload_n 0, 1) := by decide +kernel
theorem dX0_weigh_103 : decode cX0_weigh 103 = .ok (.iload_n 2, 1) := by decide +kernel
theorem dX0_weigh_104 : decode cX0_weigh 104 = .ok (.putfield 39, 3) := by decide +kernel
theorem dX0_weigh_107 : decode cX0_weigh 107 = .ok (.aload_n 0, 1) := by decide +kernel
theorem dX0_weigh_108 : decode cX0_weigh 108 = .ok (.iload_n 1, 1) := by decide +kernel
theorem dX0_weigh_109 : decode cX0_weigh 109 = .ok (.putfield 36, 3) := by decide +kernel
theorem dX0_weigh_112 : decode cX0_weigh 112 = .ok (.iconst 0, 1) := by decide +kernel
theorem dX0_weigh_113 : decode cX0_weigh 113 = .ok (.istore 4, 2) := by decide +kernel
theorem dX0_weigh_115 : decode cX0_weigh 115 = .ok (.iload 4, 2) := by decide +kernel
theorem dX0_weigh_117 : decode cX0_weigh 117 = .ok (.aload_n 0, 1) := by decide +kernel
theorem dX0_weigh_118 : decode cX0_weigh 118 = .ok (.getfield 21, 3) := by decide +kernel
theorem dX0_weigh_121 : decode cX0_weigh 121 = .ok (.getfield 54, 3) := by decide +kernel
theorem dX0_weigh_124 : decode cX0_weigh 124 = .ok (.if_icmp .ge 53, 3) := by decide +kernel
theorem dX0_weigh_127 : decode cX0_weigh 127 = .ok (.aload_n 0, 1) := by decide +kernel
theorem dX0_weigh_128 : decode cX0_weigh 128 = .ok (.getfield 15, 3) := by decide +kernel
theorem dX0_weigh_131 : decode cX0_weigh 131 = .ok (.iload 4, 2) := by decide +kernel
theorem dX0_weigh_133 : decode cX0_weigh 133 = .ok (.iconst 5, 1) := by decide +kernel
theorem dX0_weigh_134 : decode cX0_weigh 134 = .ok (.imul, 1) := by decide +kernel
theorem dX0_weigh_135 : decode cX0_weigh 135 = .ok (.aload_n 0, 1) := by decide +kernel
theorem dX0_weigh_136 : decode cX0_weigh 136 = .ok (.getfield 9, 3) := by decide +kernel
theorem dX0_weigh_139 : decode cX0_weigh 139 = .ok (.iload 4, 2) := by decide +kernel
theorem dX0_weigh_141 : decode cX0_weigh 141 = .ok (.iaload, 1) := by decide +kernel
theorem dX0_weigh_142 : decode cX0_weigh 142 = .ok (.iadd, 1) := by decide +kernel
theorem dX0_weigh_143 : decode cX0_weigh 143 = .ok (.iconst 2, 1) := by decide +kernel
theorem dX0_weigh_144 : decode cX0_weigh 144 = .ok (.iadd, 1) := by decide +kernel
theorem dX0_weigh_145 : decode cX0_weigh 145 = .ok (.dup2, 1) := by decide +kernel
theorem dX0_weigh_146 : decode cX0_weigh 146 = .ok (.iaload, 1) := by decide +kernel
theorem dX0_weigh_147 : decode cX0_weigh 147 = .ok (.iload_n 2, 1) := by decide +kernel
theorem dX0_weigh_148 : decode cX0_weigh 148 = .ok (.iadd, 1) := by decide +kernel
theorem dX0_weigh_149 : decode cX0_weigh 149 = .ok (.iastore, 1) := by decide +kernel
theorem dX0_weigh_150 : decode cX0_weigh 150 = .ok (.aload_n 0, 1) := by decide +kernel
theorem dX0_weigh_151 : decode cX0_weigh 151 = .ok (.getfield 9, 3) := by decide +kernel
theorem dX0_weigh_154 : decode cX0_weigh 154 = .ok (.iload 4, 2) := by decide +kernel
theorem dX0_weigh_156 : decode cX0_weigh 156 = .ok (.iaload, 1) := by decide +kernel
theorem dX0_weigh_157 : decode cX0_weigh 157 = .ok (.ifCond .ne 14, 3) := by decide +kernel
theorem dX0_weigh_160 : decode cX0_weigh 160 = .ok (.aload_n 0, 1) := by decide +kernel
theorem dX0_weigh_161 : decode cX0_weigh 161 = .ok (.getfield 18, 3) := by decide +kernel
theorem dX0_weigh_164 : decode cX0_weigh 164 = .ok (.iload 4, 2) := by decide +kernel
theorem dX0_weigh_166 : decode cX0_weigh 166 = .ok (.dup2, 1) := by decide +kernel
theorem dX0_weigh_167 : decode cX0_weigh 167 = .ok (.iaload, 1) := by decide +kernel
theorem dX0_weigh_168 : decode cX0_weigh 168 = .ok (.iconst 1, 1) := by decide +kernel
theorem dX0_weigh_169 : decode cX0_weigh 169 = .ok (.iadd, 1) := by decide +kernel
theorem dX0_weigh_170 : decode cX0_weigh 170 = .ok (.iastore, 1) := by decide +kernel
theorem dX0_weigh_171 : decode cX0_weigh 171 = .ok (.iinc 4 1, 3) := by decide +kernel
theorem dX0_weigh_174 : decode cX0_weigh 174 = .ok (.goto (-59), 3) := by decide +kernel
theorem dX0_weigh_177 : decode cX0_weigh 177 = .ok (.return_, 1) := by decide +kernel
theorem dX0_weightAt_0 : decode cX0_weightAt 0 = .ok (.aload_n 0, 1) := by decide +kernel
theorem dX0_weightAt_1 : decode cX0_weightAt 1 = .ok (.getfield 21, 3) := by decide +kernel
theorem dX0_weightAt_4 : decode cX0_weightAt 4 = .ok (.iload_n 1, 1) := by decide +kernel
theorem dX0_weightAt_5 : decode cX0_weightAt 5 = .ok (.invokevirtual 95, 3) := by decide +kernel
theorem dX0_weightAt_8 : decode cX0_weightAt 8 = .ok (.ifCond .eq 14, 3) := by decide +kernel
theorem dX0_weightAt_11 : decode cX0_weightAt 11 = .ok (.iload_n 2, 1) := by decide +kernel
theorem dX0_weightAt_12 : decode cX0_weightAt 12 = .ok (.bipush (-2), 2) := by decide +kernel
theorem dX0_weightAt_14 : decode cX0_weightAt 14 = .ok (.if_icmp .lt 8, 3) := by decide +kernel
theorem dX0_weightAt_17 : decode cX0_weightAt 17 = .ok (.iload_n 2, 1) := by decide +kernel
theorem dX0_weightAt_18 : decode cX0_weightAt 18 = .ok (.iconst 2, 1) := by decide +kernel
theorem dX0_weightAt_19 : decode cX0_weightAt 19 = .ok (.if_icmp .le 5, 3) := by decide +kernel
theorem dX0_weightAt_22 : decode cX0_weightAt 22 = .ok (.iconst 0, 1) := by decide +kernel
theorem dX0_weightAt_23 : decode cX0_weightAt 23 = .ok (.ireturn, 1) := by decide +kernel
theorem dX0_weightAt_24 : decode cX0_weightAt 24 = .ok (.aload_n 0, 1) := by decide +kernel
theorem dX0_weightAt_25 : decode cX0_weightAt 25 = .ok (.getfield 15, 3) := by decide +kernel
theorem dX0_weightAt_28 : decode cX0_weightAt 28 = .ok (.iload_n 1, 1) := by decide +kernel
theorem dX0_weightAt_29 : decode cX0_weightAt 29 = .ok (.iconst 5, 1) := by decide +kernel
theorem dX0_weightAt_30 : decode cX0_weightAt 30 = .ok (.imul, 1) := by decide +kernel
theorem dX0_weightAt_31 : decode cX0_weightAt 31 = .ok (.iload_n 2, 1) := by decide +kernel
theorem dX0_weightAt_32 : decode cX0_weightAt 32 = .ok (.iadd, 1) := by decide +kernel
theorem dX0_weightAt_33 : decode cX0_weightAt 33 = .ok (.iconst 2, 1) := by decide +kernel
theorem dX0_weightAt_34 : decode cX0_weightAt 34 = .ok (.iadd, 1) := by decide +kernel
theorem dX0_weightAt_35 : decode cX0_weightAt 35 = .ok (.iaload, 1) := by decide +kernel
theorem dX0_weightAt_36 : decode cX0_weightAt 36 = .ok (.ireturn, 1) := by decide +kernel
theorem dX0_weightOut_0 : decode cX0_weightOut 0 = .ok (.aload_n 0, 1) := by decide +kernel
theorem dX0_weightOut_1 : decode cX0_weightOut 1 = .ok (.getfield 42, 3) := by decide +kernel
theorem dX0_weightOut_4 : decode cX0_weightOut 4 = .ok (.aload_n 0, 1) := by decide +kernel
theorem dX0_weightOut_5 : decode cX0_weightOut 5 = .ok (.iload_n 1, 1) := by decide +kernel
theorem dX0_weightOut_6 : decode cX0_weightOut 6 = .ok (.iconst 0, 1) := by decide +kernel
theorem dX0_weightOut_7 : decode cX0_weightOut 7 = .ok (.invokevirtual 99, 3) := by decide +kernel
theorem dX0_weightOut_10 : decode cX0_weightOut 10 = .ok (.isub, 1) := by decide +kernel
theorem dX0_weightOut_11 : decode cX0_weightOut 11 = .ok (.ireturn, 1) := by decide +kernel
theorem dX0_fittingWithout_0 : decode cX0_fittingWithout 0 = .ok (.aload_n 0, 1) := by decide +kernel
theorem dX0_fittingWithout_1 : decode cX0_fittingWithout 1 = .ok (.getfield 21, 3) := by decide +kernel
theorem dX0_fittingWithout_4 : decode cX0_fittingWithout 4 = .ok (.iload_n 1, 1) := by decide +kernel
theorem dX0_fittingWithout_5 : decode cX0_fittingWithout 5 = .ok (.invokevirtual 95, 3) := by decide +kernel
theorem dX0_fittingWithout_8 : decode cX0_fittingWithout 8 = .ok (.ifCond .eq 12, 3) := by decide +kernel
theorem dX0_fittingWithout_11 : decode cX0_fittingWithout 11 = .ok (.aload_n 0, 1) := by decide +kernel
theorem dX0_fittingWithout_12 : decode cX0_fittingWithout 12 = .ok (.getfield 18, 3) := by decide +kernel
theorem dX0_fittingWithout_15 : decode cX0_fittingWithout 15 = .ok (.iload_n 1, 1) := by decide +kernel
theorem dX0_fittingWithout_16 : decode cX0_fittingWithout 16 = .ok (.iaload, 1) := by decide +kernel
theorem dX0_fittingWithout_17 : decode cX0_fittingWithout 17 = .ok (.goto 4, 3) := by decide +kernel
theorem dX0_fittingWithout_20 : decode cX0_fittingWithout 20 = .ok (.iconst 0, 1) := by decide +kernel
theorem dX0_fittingWithout_21 : decode cX0_fittingWithout 21 = .ok (.ireturn, 1) := by decide +kernel
theorem dX0_likeliestPlayer_0 : decode cX0_likeliestPlayer 0 = .ok (.bipush (-9), 2) := by decide +kernel
theorem dX0_likeliestPlayer_2 : decode cX0_likeliestPlayer 2 = .ok (.istore_n 1, 1) := by decide +kernel
theorem dX0_likeliestPlayer_3 : decode cX0_likeliestPlayer 3 = .ok (.iconst 0, 1) := by decide +kernel
theorem dX0_likeliestPlayer_4 : decode cX0_likeliestPlayer 4 = .ok (.istore_n 2, 1) := by decide +kernel
theorem dX0_likeliestPlayer_5 : decode cX0_likeliestPlayer 5 = .ok (.iconst 0, 1) := by decide +kernel
theorem dX0_likeliestPlayer_6 : decode cX0_likeliestPlayer 6 = .ok (.istore_n 3, 1) := by decide +kernel
theorem dX0_likeliestPlayer_7 : decode cX0_likeliestPlayer 7 = .ok (.iload_n 3, 1) := by decide +kernel
theorem dX0_likeliestPlayer_8 : decode cX0_likeliestPlayer 8 = .ok (.aload_n 0, 1) := by decide +kernel
theorem dX0_likeliestPlayer_9 : decode cX0_likeliestPlayer 9 = .ok (.getfield 21, 3) := by decide +kernel
theorem dX0_likeliestPlayer_12 : decode cX0_likeliestPlayer 12 = .ok (.getfield 54, 3) := by decide +kernel
theorem dX0_likeliestPlayer_15 : decode cX0_likeliestPlayer 15 = .ok (.if_icmp .ge 26, 3) := by decide +kernel
theorem dX0_likeliestPlayer_18 : decode cX0_likeliestPlayer 18 = .ok (.aload_n 0, 1) := by decide +kernel
theorem dX0_likeliestPlayer_19 : decode cX0_likeliestPlayer 19 = .ok (.iload_n 3, 1) := by decide +kernel
theorem dX0_likeliestPlayer_20 : decode cX0_likeliestPlayer 20 = .ok (.invokevirtual 103, 3) := by decide +kernel
theorem dX0_likeliestPlayer_23 : decode cX0_likeliestPlayer 23 = .ok (.iload_n 2, 1) := by decide +kernel
theorem dX0_likeliestPlayer_24 : decode cX0_likeliestPlayer 24 = .ok (.if_icmp .le 11, 3) := by decide +kernel
theorem dX0_likeliestPlayer_27 : decode cX0_likeliestPlayer 27 = .ok (.aload_n 0, 1) := by decide +kernel
theorem dX0_likeliestPlayer_28 : decode cX0_likeliestPlayer 28 = .ok (.iload_n 3, 1) := by decide +kernel
theorem dX0_likeliestPlayer_29 : decode cX0_likeliestPlayer 29 = .ok (.invokevirtual 103, 3) := by decide +kernel
theorem dX0_likeliestPlayer_32 : decode cX0_likeliestPlayer 32 = .ok (.istore_n 2, 1) := by decide +kernel
theorem dX0_likeliestPlayer_33 : decode cX0_likeliestPlayer 33 = .ok (.iload_n 3, 1) := by decide +kernel
theorem dX0_likeliestPlayer_34 : decode cX0_likeliestPlayer 34 = .ok (.istore_n 1, 1) := by decide +kernel
theorem dX0_likeliestPlayer_35 : decode cX0_likeliestPlayer 35 = .ok (.iinc 3 1, 3) := by decide +kernel
theorem dX0_likeliestPlayer_38 : decode cX0_likeliestPlayer 38 = .ok (.goto (-31), 3) := by decide +kernel
theorem dX0_likeliestPlayer_41 : decode cX0_likeliestPlayer 41 = .ok (.iload_n 1, 1) := by decide +kernel
theorem dX0_likeliestPlayer_42 : decode cX0_likeliestPlayer 42 = .ok (.ireturn, 1) := by decide +kernel
theorem dX0_likeliestOut_0 : decode cX0_likeliestOut 0 = .ok (.bipush (-2), 2) := by decide +kernel
theorem dX0_likeliestOut_2 : decode cX0_likeliestOut 2 = .ok (.istore_n 2, 1) := by decide +kernel
theorem dX0_likeliestOut_3 : decode cX0_likeliestOut 3 = .ok (.bipush (-2), 2) := by decide +kernel
theorem dX0_likeliestOut_5 : decode cX0_likeliestOut 5 = .ok (.istore_n 3, 1) := by decide +kernel
theorem dX0_likeliestOut_6 : decode cX0_likeliestOut 6 = .ok (.iload_n 3, 1) := by decide +kernel
theorem dX0_likeliestOut_7 : decode cX0_likeliestOut 7 = .ok (.iconst 2, 1) := by decide +kernel
theorem dX0_likeliestOut_8 : decode cX0_likeliestOut 8 = .ok (.if_icmp .gt 30, 3) := by decide +kernel
theorem dX0_likeliestOut_11 : decode cX0_likeliestOut 11 = .ok (.iload_n 3, 1) := by decide +kernel
theorem dX0_likeliestOut_12 : decode cX0_likeliestOut 12 = .ok (.ifCond .eq 20, 3) := by decide +kernel
theorem dX0_likeliestOut_15 : decode cX0_likeliestOut 15 = .ok (.aload_n 0, 1) := by decide +kernel
theorem dX0_likeliestOut_16 : decode cX0_likeliestOut 16 = .ok (.iload_n 1, 1) := by decide +kernel
theorem dX0_likeliestOut_17 : decode cX0_likeliestOut 17 = .ok (.iload_n 3, 1) := by decide +kernel
theorem dX0_likeliestOut_18 : decode cX0_likeliestOut 18 = .ok (.invokevirtual 99, 3) := by decide +kernel
theorem dX0_likeliestOut_21 : decode cX0_likeliestOut 21 = .ok (.aload_n 0, 1) := by decide +kernel
theorem dX0_likeliestOut_22 : decode cX0_likeliestOut 22 = .ok (.iload_n 1, 1) := by decide +kernel
theorem dX0_likeliestOut_23 : decode cX0_likeliestOut 23 = .ok (.iload_n 2, 1) := by decide +kernel
theorem dX0_likeliestOut_24 : decode cX0_likeliestOut 24 = .ok (.invokevirtual 99, 3) := by decide +kernel
theorem dX0_likeliestOut_27 : decode cX0_likeliestOut 27 = .ok (.if_icmp .le 5, 3) := by decide +kernel
theorem dX0_likeliestOut_30 : decode cX0_likeliestOut 30 = .ok (.iload_n 3, 1) := by decide +kernel
theorem dX0_likeliestOut_31 : decode cX0_likeliestOut 31 = .ok (.istore_n 2, 1) := by decide +kernel
theorem dX0_likeliestOut_32 : decode cX0_likeliestOut 32 = .ok (.iinc 3 1, 3) := by decide +kernel
theorem dX0_likeliestOut_35 : decode cX0_likeliestOut 35 = .ok (.goto (-29), 3) := by decide +kernel
theorem dX0_likeliestOut_38 : decode cX0_likeliestOut 38 = .ok (.iload_n 2, 1) := by decide +kernel
theorem dX0_likeliestOut_39 : decode cX0_likeliestOut 39 = .ok (.ireturn, 1) := by decide +kernel
theorem dX0_countBeginnings_0 : decode cX0_countBeginnings 0 = .ok (.iconst 0, 1) := by decide +kernel
theorem dX0_countBeginnings_1 : decode cX0_countBeginnings 1 = .ok (.istore_n 1, 1) := by decide +kernel
theorem dX0_countBeginnings_2 : decode cX0_countBeginnings 2 = .ok (.aload_n 0, 1) := by decide +kernel
theorem dX0_countBeginnings_3 : decode cX0_countBeginnings 3 = .ok (.iconst 0, 1) := by decide +kernel
theorem dX0_countBeginnings_4 : decode cX0_countBeginnings 4 = .ok (.putfield 106, 3) := by decide +kernel
theorem dX0_countBeginnings_7 : decode cX0_countBeginnings 7 = .ok (.aload_n 0, 1) := by decide +kernel
theorem dX0_countBeginnings_8 : decode cX0_countBeginnings 8 = .ok (.getfield 25, 3) := by decide +kernel
theorem dX0_countBeginnings_11 : decode cX0_countBeginnings 11 = .ok (.getfield 67, 3) := by decide +kernel
theorem dX0_countBeginnings_14 : decode cX0_countBeginnings 14 = .ok (.istore_n 2, 1) := by decide +kernel
theorem dX0_countBeginnings_15 : decode cX0_countBeginnings 15 = .ok (.iload_n 2, 1) := by decide +kernel
theorem dX0_countBeginnings_16 : decode cX0_countBeginnings 16 = .ok (.aload_n 0, 1) := by decide +kernel
theorem dX0_countBeginnings_17 : decode cX0_countBeginnings 17 = .ok (.getfield 25, 3) := by decide +kernel
theorem dX0_countBeginnings_20 : decode cX0_countBeginnings 20 = .ok (.getfield 72, 3) := by decide +kernel
theorem dX0_countBeginnings_23 : decode cX0_countBeginnings 23 = .ok (.if_icmp .ge 35, 3) := by decide +kernel
theorem dX0_countBeginnings_26 : decode cX0_countBeginnings 26 = .ok (.aload_n 0, 1) := by decide +kernel
theorem dX0_countBeginnings_27 : decode cX0_countBeginnings 27 = .ok (.iload_n 2, 1) := by decide +kernel
theorem dX0_countBeginnings_28 : decode cX0_countBeginnings 28 = .ok (.invokevirtual 109, 3) := by decide +kernel
theorem dX0_countBeginnings_31 : decode cX0_countBeginnings 31 = .ok (.istore_n 3, 1) := by decide +kernel
theorem dX0_countBeginnings_32 : decode cX0_countBeginnings 32 = .ok (.iload_n 3, 1) := by decide +kernel
theorem dX0_countBeginnings_33 : decode cX0_countBeginnings 33 = .ok (.ifCond .le 15, 3) := by decide +kernel
theorem dX0_countBeginnings_36 : decode cX0_countBeginnings 36 = .ok (.aload_n 0, 1) := by decide +kernel
theorem dX0_countBeginnings_37 : decode cX0_countBeginnings 37 = .ok (.dup, 1) := by decide +kernel
theorem dX0_countBeginnings_38 : decode cX0_countBeginnings 38 = .ok (.getfield 106, 3) := by decide +kernel
theorem dX0_countBeginnings_41 : decode cX0_countBeginnings 41 = .ok (.iconst 1, 1) := by decide +kernel
theorem dX0_countBeginnings_42 : decode cX0_countBeginnings 42 = .ok (.iload_n 2, 1) := by decide +kernel
theorem dX0_countBeginnings_43 : decode cX0_countBeginnings 43 = .ok (.ishl, 1) := by decide +kernel
theorem dX0_countBeginnings_44 : decode cX0_countBeginnings 44 = .ok (.ior, 1) := by decide +kernel
theorem dX0_countBeginnings_45 : decode cX0_countBeginnings 45 = .ok (.putfield 106, 3) := by decide +kernel
theorem dX0_countBeginnings_48 : decode cX0_countBeginnings 48 = .ok (.iload_n 1, 1) := by decide +kernel
theorem dX0_countBeginnings_49 : decode cX0_countBeginnings 49 = .ok (.iload_n 3, 1) := by decide +kernel
theorem dX0_countBeginnings_50 : decode cX0_countBeginnings 50 = .ok (.iadd, 1) := by decide +kernel
theorem dX0_countBeginnings_51 : decode cX0_countBeginnings 51 = .ok (.istore_n 1, 1) := by decide +kernel
theorem dX0_countBeginnings_52 : decode cX0_countBeginnings 52 = .ok (.iinc 2 1, 3) := by decide +kernel
theorem dX0_countBeginnings_55 : decode cX0_countBeginnings 55 = .ok (.goto (-40), 3) := by decide +kernel
theorem dX0_countBeginnings_58 : decode cX0_countBeginnings 58 = .ok (.iload_n 1, 1) := by decide +kernel
theorem dX0_countBeginnings_59 : decode cX0_countBeginnings 59 = .ok (.ireturn, 1) := by decide +kernel
theorem dX0_countSlipsAhead_0 : decode cX0_countSlipsAhead 0 = .ok (.aload_n 0, 1) := by decide +kernel
theorem dX0_countSlipsAhead_1 : decode cX0_countSlipsAhead 1 = .ok (.getfield 9, 3) := by decide +kernel
theorem dX0_countSlipsAhead_4 : decode cX0_countSlipsAhead 4 = .ok (.iconst 0, 1) := by decide +kernel
theorem dX0_countSlipsAhead_5 : decode cX0_countSlipsAhead 5 = .ok (.invokestatic 48, 3) := by decide +kernel
theorem dX0_countSlipsAhead_8 : decode cX0_countSlipsAhead 8 = .ok (.aload_n 0, 1) := by decide +kernel
theorem dX0_countSlipsAhead_9 : decode cX0_countSlipsAhead 9 = .ok (.aload_n 0, 1) := by decide +kernel
theorem dX0_countSlipsAhead_10 : decode cX0_countSlipsAhead 10 = .ok (.getfield 25, 3) := by decide +kernel
theorem dX0_countSlipsAhead_13 : decode cX0_countSlipsAhead 13 = .ok (.getfield 67, 3) := by decide +kernel
theorem dX0_countSlipsAhead_16 : decode cX0_countSlipsAhead 16 = .ok (.iload_n 1, 1) := by decide +kernel
theorem dX0_countSlipsAhead_17 : decode cX0_countSlipsAhead 17 = .ok (.invokevirtual 75, 3) := by decide +kernel
theorem dX0_countSlipsAhead_20 : decode cX0_countSlipsAhead 20 = .ok (.ifCond .ne 5, 3) := by decide +kernel
theorem dX0_countSlipsAhead_23 : decode cX0_countSlipsAhead 23 = .ok (.iconst 0, 1) := by decide +kernel
theorem dX0_countSlipsAhead_24 : decode cX0_countSlipsAhead 24 = .ok (.ireturn, 1) := by decide +kernel
theorem dX0_countSlipsAhead_25 : decode cX0_countSlipsAhead 25 = .ok (.iconst 0, 1) := by decide +kernel
theorem dX0_countSlipsAhead_26 : decode cX0_countSlipsAhead 26 = .ok (.istore_n 2, 1) := by decide +kernel
theorem dX0_countSlipsAhead_27 : decode cX0_countSlipsAhead 27 = .ok (.iconst 0, 1) := by decide +kernel
theorem dX0_countSlipsAhead_28 : decode cX0_countSlipsAhead 28 = .ok (.istore_n 3, 1) := by decide +kernel
theorem dX0_countSlipsAhead_29 : decode cX0_countSlipsAhead 29 = .ok (.iload_n 3, 1) := by decide +kernel
theorem dX0_countSlipsAhead_30 : decode cX0_countSlipsAhead 30 = .ok (.aload_n 0, 1) := by decide +kernel
theorem dX0_countSlipsAhead_31 : decode cX0_countSlipsAhead 31 = .ok (.getfield 21, 3) := by decide +kernel
theorem dX0_countSlipsAhead_34 : decode cX0_countSlipsAhead 34 = .ok (.getfield 54, 3) := by decide +kernel
theorem dX0_countSlipsAhead_37 : decode cX0_countSlipsAhead 37 = .ok (.if_icmp .ge 57, 3) := by decide +kernel
theorem dX0_countSlipsAhead_40 : decode cX0_countSlipsAhead 40 = .ok (.iconst (-1), 1) := by decide +kernel
theorem dX0_countSlipsAhead_41 : decode cX0_countSlipsAhead 41 = .ok (.istore 4, 2) := by decide +kernel
theorem dX0_countSlipsAhead_43 : decode cX0_countSlipsAhead 43 = .ok (.iload 4, 2) := by decide +kernel
theorem dX0_countSlipsAhead_45 : decode cX0_countSlipsAhead 45 = .ok (.iconst 1, 1) := by decide +kernel
theorem dX0_countSlipsAhead_46 : decode cX0_countSlipsAhead 46 = .ok (.if_icmp .gt 35, 3) := by decide +kernel
theorem dX0_countSlipsAhead_49 : decode cX0_countSlipsAhead 49 = .ok (.aload_n 0, 1) := by decide +kernel
theorem dX0_countSlipsAhead_50 : decode cX0_countSlipsAhead 50 = .ok (.getfield 9, 3) := by decide +kernel
theorem dX0_countSlipsAhead_53 : decode cX0_countSlipsAhead 53 = .ok (.iload_n 3, 1) := by decide +kernel
theorem dX0_countSlipsAhead_54 : decode cX0_countSlipsAhead 54 = .ok (.iload 4, 2) := by decide +kernel
theorem dX0_countSlipsAhead_56 : decode cX0_countSlipsAhead 56 = .ok (.iastore, 1) := by decide +kernel
theorem dX0_countSlipsAhead_57 : decode cX0_countSlipsAhead 57 = .ok (.aload_n 0, 1) := by decide +kernel
theorem dX0_countSlipsAhead_58 : decode cX0_countSlipsAhead 58 = .ok (.iload_n 1, 1) := by decide +kernel
theorem dX0_countSlipsAhead_59 : decode cX0_countSlipsAhead 59 = .ok (.aload_n 0, 1) := by decide +kernel
theorem dX0_countSlipsAhead_60 : decode cX0_countSlipsAhead 60 = .ok (.getfield 25, 3) := by decide +kernel
theorem dX0_countSlipsAhead_63 : decode cX0_countSlipsAhead 63 = .ok (.getfield 72, 3) := by decide +kernel
theorem dX0_countSlipsAhead_66 : decode cX0_countSlipsAhead 66 = .ok (.invokevirtual 75, 3) := by decide +kernel
theorem dX0_countSlipsAhead_69 : decode cX0_countSlipsAhead 69 = .ok (.ifCond .eq 6, 3) := by decide +kernel
theorem dX0_countSlipsAhead_72 : decode cX0_countSlipsAhead 72 = .ok (.iinc 2 1, 3) := by decide +kernel
theorem dX0_countSlipsAhead_75 : decode cX0_countSlipsAhead 75 = .ok (.iinc 4 2, 3) := by decide +kernel
theorem dX0_countSlipsAhead_78 : decode cX0_countSlipsAhead 78 = .ok (.goto (-35), 3) := by decide +kernel
theorem dX0_countSlipsAhead_81 : decode cX0_countSlipsAhead 81 = .ok (.aload_n 0, 1) := by decide +kernel
theorem dX0_countSlipsAhead_82 : decode cX0_countSlipsAhead 82 = .ok (.getfield 9, 3) := by decide +kernel
theorem dX0_countSlipsAhead_85 : decode cX0_countSlipsAhead 85 = .ok (.iload_n 3, 1) := by decide +kernel
theorem dX0_countSlipsAhead_86 : decode cX0_countSlipsAhead 86 = .ok (.iconst 0, 1) := by decide +kernel
theorem dX0_countSlipsAhead_87 : decode cX0_countSlipsAhead 87 = .ok (.iastore, 1) := by decide +kernel
theorem dX0_countSlipsAhead_88 : decode cX0_countSlipsAhead 88 = .ok (.iinc 3 1, 3) := by decide +kernel
theorem dX0_countSlipsAhead_91 : decode cX0_countSlipsAhead 91 = .ok (.goto (-62), 3) := by decide +kernel
theorem dX0_countSlipsAhead_94 : decode cX0_countSlipsAhead 94 = .ok (.iload_n 2, 1) := by decide +kernel
theorem dX0_countSlipsAhead_95 : decode cX0_countSlipsAhead 95 = .ok (.ireturn, 1) := by decide +kernel
theorem dX1_init_0 : decode cX1_init 0 = .ok (.aload_n 0, 1) := by decide +kernel
theorem dX1_init_1 : decode cX1_init 1 = .ok (.invokespecial 3, 3) := by decide +kernel
theorem dX1_init_4 : decode cX1_init 4 = .ok (.aload_n 0, 1) := by decide +kernel
theorem dX1_init_5 : decode cX1_init 5 = .ok (.bipush 14, 2) := by decide +kernel
theorem dX1_init_7 : decode cX1_init 7 = .ok (.newarray .int, 2) := by decide +kernel
theorem dX1_init_9 : decode cX1_init 9 = .ok (.putfield 9, 3) := by decide +kernel
theorem dX1_init_12 : decode cX1_init 12 = .ok (.aload_n 0, 1) := by decide +kernel
theorem dX1_init_13 : decode cX1_init 13 = .ok (.bipush 40, 2) := by decide +kernel
theorem dX1_init_15 : decode cX1_init 15 = .ok (.newarray .int, 2) := by decide +kernel
theorem dX1_init_17 : decode cX1_init 17 = .ok (.putfield 15, 3) := by decide +kernel
theorem dX1_init_20 : decode cX1_init 20 = .ok (.aload_n 0, 1) := by decide +kernel
theorem dX1_init_21 : decode cX1_init 21 = .ok (.iconst 4, 1) := by decide +kernel
theorem dX1_init_22 : decode cX1_init 22 = .ok (.newarray .int, 2) := by decide +kernel
theorem dX1_init_24 : decode cX1_init 24 = .ok (.putfield 18, 3) := by decide +kernel
theorem dX1_init_27 : decode cX1_init 27 = .ok (.aload_n 0, 1) := by decide +kernel
theorem dX1_init_28 : decode cX1_init 28 = .ok (.aload_n 1, 1) := by decide +kernel
theorem dX1_init_29 : decode cX1_init 29 = .ok (.putfield 21, 3) := by decide +kernel
theorem dX1_init_32 : decode cX1_init 32 = .ok (.return_, 1) := by decide +kernel
theorem dX1_isOver_0 : decode cX1_isOver 0 = .ok (.aload_n 0, 1) := by decide +kernel
theorem dX1_isOver_1 : decode cX1_isOver 1 = .ok (.getfield 25, 3) := by decide +kernel
theorem dX1_isOver_4 : decode cX1_isOver 4 = .ok (.aload_n 0, 1) := by decide +kernel
theorem dX1_isOver_5 : decode cX1_isOver 5 = .ok (.getfield 21, 3) := by decide +kernel
theorem dX1_isOver_8 : decode cX1_isOver 8 = .ok (.getfield 29, 3) := by decide +kernel
theorem dX1_isOver_11 : decode cX1_isOver 11 = .ok (.if_icmp .lt 7, 3) := by decide +kernel
theorem dX1_isOver_14 : decode cX1_isOver 14 = .ok (.iconst 1, 1) := by decide +kernel
theorem dX1_isOver_15 : decode cX1_isOver 15 = .ok (.goto 4, 3) := by decide +kernel
theorem dX1_isOver_18 : decode cX1_isOver 18 = .ok (.iconst 0, 1) := by decide +kernel
theorem dX1_isOver_19 : decode cX1_isOver 19 = .ok (.ireturn, 1) := by decide +kernel
theorem dX1_isFull_0 : decode cX1_isFull 0 = .ok (.aload_n 0, 1) := by decide +kernel
theorem dX1_isFull_1 : decode cX1_isFull 1 = .ok (.getfield 34, 3) := by decide +kernel
theorem dX1_isFull_4 : decode cX1_isFull 4 = .ok (.bipush 40, 2) := by decide +kernel
theorem dX1_isFull_6 : decode cX1_isFull 6 = .ok (.if_icmp .lt 7, 3) := by decide +kernel
theorem dX1_isFull_9 : decode cX1_isFull 9 = .ok (.iconst 1, 1) := by decide +kernel
theorem dX1_isFull_10 : decode cX1_isFull 10 = .ok (.goto 4, 3) := by decide +kernel
theorem dX1_isFull_13 : decode cX1_isFull 13 = .ok (.iconst 0, 1) := by decide +kernel
theorem dX1_isFull_14 : decode cX1_isFull 14 = .ok (.ireturn, 1) := by decide +kernel
theorem dX1_outOf_0 : decode cX1_outOf 0 = .ok (.iload_n 1, 1) := by decide +kernel
theorem dX1_outOf_1 : decode cX1_outOf 1 = .ok (.ifCond .lt 21, 3) := by decide +kernel
theorem dX1_outOf_4 : decode cX1_outOf 4 = .ok (.iload_n 1, 1) := by decide +kernel
theorem dX1_outOf_5 : decode cX1_outOf 5 = .ok (.aload_n 0, 1) := by decide +kernel
theorem dX1_outOf_6 : decode cX1_outOf 6 = .ok (.getfield 18, 3) := by decide +kernel
theorem dX1_outOf_9 : decode cX1_outOf 9 = .ok (.arraylength, 1) := by decide +kernel
theorem dX1_outOf_10 : decode cX1_outOf 10 = .ok (.if_icmp .ge 12, 3) := by decide +kernel
theorem dX1_outOf_13 : decode cX1_outOf 13 = .ok (.aload_n 0, 1) := by decide +kernel
theorem dX1_outOf_14 : decode cX1_outOf 14 = .ok (.getfield 18, 3) := by decide +kernel
theorem dX1_outOf_17 : decode cX1_outOf 17 = .ok (.iload_n 1, 1) := by decide +kernel
theorem dX1_outOf_18 : decode cX1_outOf 18 = .ok (.iaload, 1) := by decide +kernel
theorem dX1_outOf_19 : decode cX1_outOf 19 = .ok (.goto 4, 3) := by decide +kernel
theorem dX1_outOf_22 : decode cX1_outOf 22 = .ok (.iconst 0, 1) := by decide +kernel
theorem dX1_outOf_23 : decode cX1_outOf 23 = .ok (.ireturn, 1) := by decide +kernel
theorem dX1_heardOf_0 : decode cX1_heardOf 0 = .ok (.iload_n 1, 1) := by decide +kernel
theorem dX1_heardOf_1 : decode cX1_heardOf 1 = .ok (.aload_n 0, 1) := by decide +kernel
theorem dX1_heardOf_2 : decode cX1_heardOf 2 = .ok (.getfield 37, 3) := by decide +kernel
theorem dX1_heardOf_5 : decode cX1_heardOf 5 = .ok (.if_icmp .lt 29, 3) := by decide +kernel
theorem dX1_heardOf_8 : decode cX1_heardOf 8 = .ok (.iload_n 1, 1) := by decide +kernel
theorem dX1_heardOf_9 : decode cX1_heardOf 9 = .ok (.aload_n 0, 1) := by decide +kernel
theorem dX1_heardOf_10 : decode cX1_heardOf 10 = .ok (.getfield 25, 3) := by decide +kernel
theorem dX1_heardOf_13 : decode cX1_heardOf 13 = .ok (.if_icmp .ge 21, 3) := by decide +kernel
theorem dX1_heardOf_16 : decode cX1_heardOf 16 = .ok (.iload_n 1, 1) := by decide +kernel
theorem dX1_heardOf_17 : decode cX1_heardOf 17 = .ok (.aload_n 0, 1) := by decide +kernel
theorem dX1_heardOf_18 : decode cX1_heardOf 18 = .ok (.getfield 9, 3) := by decide +kernel
theorem dX1_heardOf_21 : decode cX1_heardOf 21 = .ok (.arraylength, 1) := by decide +kernel
theorem dX1_heardOf_22 : decode cX1_heardOf 22 = .ok (.if_icmp .ge 12, 3) := by decide +kernel
theorem dX1_heardOf_25 : decode cX1_heardOf 25 = .ok (.aload_n 0, 1) := by decide +kernel
theorem dX1_heardOf_26 : decode cX1_heardOf 26 = .ok (.getfield 9, 3) := by decide +kernel
theorem dX1_heardOf_29 : decode cX1_heardOf 29 = .ok (.iload_n 1, 1) := by decide +kernel
theorem dX1_heardOf_30 : decode cX1_heardOf 30 = .ok (.iaload, 1) := by decide +kernel
theorem dX1_heardOf_31 : decode cX1_heardOf 31 = .ok (.goto 4, 3) := by decide +kernel
theorem dX1_heardOf_34 : decode cX1_heardOf 34 = .ok (.iconst 0, 1) := by decide +kernel
theorem dX1_heardOf_35 : decode cX1_heardOf 35 = .ok (.ireturn, 1) := by decide +kernel
theorem dX1_countOut_0 : decode cX1_countOut 0 = .ok (.iconst 0, 1) := by decide +kernel
theorem dX1_countOut_1 : decode cX1_countOut 1 = .ok (.istore_n 1, 1) := by decide +kernel
theorem dX1_countOut_2 : decode cX1_countOut 2 = .ok (.aload_n 0, 1) := by decide +kernel
theorem dX1_countOut_3 : decode cX1_countOut 3 = .ok (.getfield 18, 3) := by decide +kernel
theorem dX1_countOut_6 : decode cX1_countOut 6 = .ok (.astore_n 2, 1) := by decide +kernel
theorem dX1_countOut_7 : decode cX1_countOut 7 = .ok (.aload_n 2, 1) := by decide +kernel
theorem dX1_countOut_8 : decode cX1_countOut 8 = .ok (.arraylength, 1) := by decide +kernel
theorem dX1_countOut_9 : decode cX1_countOut 9 = .ok (.istore_n 3, 1) := by decide +kernel
theorem dX1_countOut_10 : decode cX1_countOut 10 = .ok (.iconst 0, 1) := by decide +kernel
theorem dX1_countOut_11 : decode cX1_countOut 11 = .ok (.istore 4, 2) := by decide +kernel
theorem dX1_countOut_13 : decode cX1_countOut 13 = .ok (.iload 4, 2) := by decide +kernel
theorem dX1_countOut_15 : decode cX1_countOut 15 = .ok (.iload_n 3, 1) := by decide +kernel
theorem dX1_countOut_16 : decode cX1_countOut 16 = .ok (.if_icmp .ge 23, 3) := by decide +kernel
theorem dX1_countOut_19 : decode cX1_countOut 19 = .ok (.aload_n 2, 1) := by decide +kernel
theorem dX1_countOut_20 : decode cX1_countOut 20 = .ok (.iload 4, 2) := by decide +kernel
theorem dX1_countOut_22 : decode cX1_countOut 22 = .ok (.iaload, 1) := by decide +kernel
theorem dX1_countOut_23 : decode cX1_countOut 23 = .ok (.istore 5, 2) := by decide +kernel
theorem dX1_countOut_25 : decode cX1_countOut 25 = .ok (.iload 5, 2) := by decide +kernel
theorem dX1_countOut_27 : decode cX1_countOut 27 = .ok (.ifCond .eq 6, 3) := by decide +kernel
theorem dX1_countOut_30 : decode cX1_countOut 30 = .ok (.iinc 1 1, 3) := by decide +kernel
theorem dX1_countOut_33 : decode cX1_countOut 33 = .ok (.iinc 4 1, 3) := by decide +kernel
theorem dX1_countOut_36 : decode cX1_countOut 36 = .ok (.goto (-23), 3) := by decide +kernel
theorem dX1_countOut_39 : decode cX1_countOut 39 = .ok (.iload_n 1, 1) := by decide +kernel
theorem dX1_countOut_40 : decode cX1_countOut 40 = .ok (.ireturn, 1) := by decide +kernel
theorem dX1_canSlip_0 : decode cX1_canSlip 0 = .ok (.aload_n 0, 1) := by decide +kernel
theorem dX1_canSlip_1 : decode cX1_canSlip 1 = .ok (.iload_n 1, 1) := by decide +kernel
theorem dX1_canSlip_2 : decode cX1_canSlip 2 = .ok (.invokevirtual 40, 3) := by decide +kernel
theorem dX1_canSlip_5 : decode cX1_canSlip 5 = .ok (.iload_n 2, 1) := by decide +kernel
theorem dX1_canSlip_6 : decode cX1_canSlip 6 = .ok (.iadd, 1) := by decide +kernel
theorem dX1_canSlip_7 : decode cX1_canSlip 7 = .ok (.invokestatic 44, 3) := by decide +kernel
theorem dX1_canSlip_10 : decode cX1_canSlip 10 = .ok (.iconst 2, 1) := by decide +kernel
theorem dX1_canSlip_11 : decode cX1_canSlip 11 = .ok (.if_icmp .gt 7, 3) := by decide +kernel
theorem dX1_canSlip_14 : decode cX1_canSlip 14 = .ok (.iconst 1, 1) := by decide +kernel
theorem dX1_canSlip_15 : decode cX1_canSlip 15 = .ok (.goto 4, 3) := by decide +kernel
theorem dX1_canSlip_18 : decode cX1_canSlip 18 = .ok (.iconst 0, 1) := by decide +kernel
theorem dX1_canSlip_19 : decode cX1_canSlip 19 = .ok (.ireturn, 1) := by decide +kernel
theorem dX1_act_0 : decode cX1_act 0 = .ok (.aload_n 0, 1) := by decide +kernel
theorem dX1_act_1 : decode cX1_act 1 = .ok (.invokevirtual 49, 3) := by decide +kernel
theorem dX1_act_4 : decode cX1_act 4 = .ok (.ifCond .eq 4, 3) := by decide +kernel
theorem dX1_act_7 : decode cX1_act 7 = .ok (.return_, 1) := by decide +kernel
theorem dX1_act_8 : decode cX1_act 8 = .ok (.aload_n 0, 1) := by decide +kernel
theorem dX1_act_9 : decode cX1_act 9 = .ok (.getfield 15, 3) := by decide +kernel
theorem dX1_act_12 : decode cX1_act 12 = .ok (.aload_n 0, 1) := by decide +kernel
theorem dX1_act_13 : decode cX1_act 13 = .ok (.getfield 34, 3) := by decide +kernel
theorem dX1_act_16 : decode cX1_act 16 = .ok (.iload_n 1, 1) := by decide +kernel
theorem dX1_act_17 : decode cX1_act 17 = .ok (.bipush 64, 2) := by decide +kernel
theorem dX1_act_19 : decode cX1_act 19 = .ok (.imul, 1) := by decide +kernel
theorem dX1_act_20 : decode cX1_act 20 = .ok (.iload_n 2, 1) := by decide +kernel
theorem dX1_act_21 : decode cX1_act 21 = .ok (.bipush 16, 2) := by decide +kernel
theorem dX1_act_23 : decode cX1_act 23 = .ok (.imul, 1) := by decide +kernel
theorem dX1_act_24 : decode cX1_act 24 = .ok (.iadd, 1) := by decide +kernel
theorem dX1_act_25 : decode cX1_act 25 = .ok (.iload_n 3, 1) := by decide +kernel
theorem dX1_act_26 : decode cX1_act 26 = .ok (.iadd, 1) := by decide +kernel
theorem dX1_act_27 : decode cX1_act 27 = .ok (.iastore, 1) := by decide +kernel
theorem dX1_act_28 : decode cX1_act 28 = .ok (.aload_n 0, 1) := by decide +kernel
theorem dX1_act_29 : decode cX1_act 29 = .ok (.aload_n 0, 1) := by decide +kernel
theorem dX1_act_30 : decode cX1_act 30 = .ok (.getfield 15, 3) := by decide +kernel
theorem dX1_act_33 : decode cX1_act 33 = .ok (.aload_n 0, 1) := by decide +kernel
theorem dX1_act_34 : decode cX1_act 34 = .ok (.getfield 34, 3) := by decide +kernel
theorem dX1_act_37 : decode cX1_act 37 = .ok (.iaload, 1) := by decide +kernel
theorem dX1_act_38 : decode cX1_act 38 = .ok (.invokevirtual 53, 3) := by decide +kernel
theorem dX1_act_41 : decode cX1_act 41 = .ok (.aload_n 0, 1) := by decide +kernel
theorem dX1_act_42 : decode cX1_act 42 = .ok (.dup, 1) := by decide +kernel
theorem dX1_act_43 : decode cX1_act 43 = .ok (.getfield 34, 3) := by decide +kernel
theorem dX1_act_46 : decode cX1_act 46 = .ok (.iconst 1, 1) := by decide +kernel
theorem dX1_act_47 : decode cX1_act 47 = .ok (.iadd, 1) := by decide +kernel
theorem dX1_act_48 : decode cX1_act 48 = .ok (.putfield 34, 3) := by decide +kernel
theorem dX1_act_51 : decode cX1_act 51 = .ok (.return_, 1) := by decide +kernel
theorem dX1_replay_0 : decode cX1_replay 0 = .ok (.aload_n 0, 1) := by decide +kernel
theorem dX1_replay_1 : decode cX1_replay 1 = .ok (.iconst 0, 1) := by decide +kernel
theorem dX1_replay_2 : decode cX1_replay 2 = .ok (.invokevirtual 57, 3) := by decide +kernel
theorem dX1_replay_5 : decode cX1_replay 5 = .ok (.iload_n 1, 1) := by decide +kernel
theorem dX1_replay_6 : decode cX1_replay 6 = .ok (.bipush 40, 2) := by decide +kernel
theorem dX1_replay_8 : decode cX1_replay 8 = .ok (.invokestatic 60, 3) := by decide +kernel
theorem dX1_replay_11 : decode cX1_replay 11 = .ok (.istore_n 2, 1) := by decide +kernel
theorem dX1_replay_12 : decode cX1_replay 12 = .ok (.iconst 0, 1) := by decide +kernel
theorem dX1_replay_13 : decode cX1_replay 13 = .ok (.istore_n 3, 1) := by decide +kernel
theorem dX1_replay_14 : decode cX1_replay 14 = .ok (.iload_n 3, 1) := by decide +kernel
theorem dX1_replay_15 : decode cX1_replay 15 = .ok (.iload_n 2, 1) := by decide +kernel
theorem dX1_replay_16 : decode cX1_replay 16 = .ok (.if_icmp .ge 19, 3) := by decide +kernel
theorem dX1_replay_19 : decode cX1_replay 19 = .ok (.aload_n 0, 1) := by decide +kernel
theorem dX1_replay_20 : decode cX1_replay 20 = .ok (.aload_n 0, 1) := by decide +kernel
theorem dX1_replay_21 : decode cX1_replay 21 = .ok (.getfield 15, 3) := by decide +kernel
theorem dX1_replay_24 : decode cX1_replay 24 = .ok (.iload_n 3, 1) := by decide +kernel
theorem dX1_replay_25 : decode cX1_replay 25 = .ok (.iaload, 1) := by decide +kernel
theorem dX1_replay_26 : decode cX1_replay 26 = .ok (.invokevirtual 53, 3) := by decide +kernel
theorem dX1_replay_29 : decode cX1_replay 29 = .ok (.iinc 3 1, 3) := by decide +kernel
theorem dX1_replay_32 : decode cX1_replay 32 = .ok (.goto (-18), 3) := by decide +kernel
theorem dX1_replay_35 : decode cX1_replay 35 = .ok (.aload_n 0, 1) := by decide +kernel
theorem dX1_replay_36 : decode cX1_replay 36 = .ok (.iload_n 2, 1) := by decide +kernel
theorem dX1_replay_37 : decode cX1_replay 37 = .ok (.putfield 34, 3) := by decide +kernel
theorem dX1_replay_40 : decode cX1_replay 40 = .ok (.return_, 1) := by decide +kernel
theorem dX1_apply_0 : decode cX1_apply 0 = .ok (.iload_n 1, 1) := by decide +kernel
theorem dX1_apply_1 : decode cX1_apply 1 = .ok (.bipush 16, 2) := by decide +kernel
theorem dX1_apply_3 : decode cX1_apply 3 = .ok (.idiv, 1) := by decide +kernel
theorem dX1_apply_4 : decode cX1_apply 4 = .ok (.iconst 4, 1) := by decide +kernel
theorem dX1_apply_5 : decode cX1_apply 5 = .ok (.irem, 1) := by decide +kernel
theorem dX1_apply_6 : decode cX1_apply 6 = .ok (.istore_n 2, 1) := by decide +kernel
theorem dX1_apply_7 : decode cX1_apply 7 = .ok (.iload_n 1, 1) := by decide +kernel
theorem dX1_apply_8 : decode cX1_apply 8 = .ok (.bipush 16, 2) := by decide +kernel
theorem dX1_apply_10 : decode cX1_apply 10 = .ok (.irem, 1) := by decide +kernel
theorem dX1_apply_11 : decode cX1_apply 11 = .ok (.istore_n 3, 1) := by decide +kernel
theorem dX1_apply_12 : decode cX1_apply 12 = .ok (.iload_n 1, 1) := by decide +kernel
theorem dX1_apply_13 : decode cX1_apply 13 = .ok (.bipush 64, 2) := by decide +kernel
theorem dX1_apply_15 : decode cX1_apply 15 = .ok (.idiv, 1) := by decide +kernel
theorem dX1_apply_16 : decode cX1_apply 16 = .ok (.tableswitch 80 0 2 #[28, 50, 67], 28) := by decide +kernel
theorem dX1_apply_44 : decode cX1_apply 44 = .ok (.aload_n 0, 1) := by decide +kernel
theorem dX1_apply_45 : decode cX1_apply 45 = .ok (.aload_n 0, 1) := by decide +kernel
theorem dX1_apply_46 : decode cX1_apply 46 = .ok (.getfield 21, 3) := by decide +kernel
theorem dX1_apply_49 : decode cX1_apply 49 = .ok (.aload_n 0, 1) := by decide +kernel
theorem dX1_apply_50 : decode cX1_apply 50 = .ok (.getfield 25, 3) := by decide +kernel
theorem dX1_apply_53 : decode cX1_apply 53 = .ok (.aload_n 0, 1) := by decide +kernel
theorem dX1_apply_54 : decode cX1_apply 54 = .ok (.getfield 18, 3) := by decide +kernel
theorem dX1_apply_57 : decode cX1_apply 57 = .ok (.invokevirtual 64, 3) := by decide +kernel
theorem dX1_apply_60 : decode cX1_apply 60 = .ok (.invokevirtual 68, 3) := by decide +kernel
theorem dX1_apply_63 : decode cX1_apply 63 = .ok (.goto 38, 3) := by decide +kernel
theorem dX1_apply_66 : decode cX1_apply 66 = .ok (.aload_n 0, 1) := by decide +kernel
theorem dX1_apply_67 : decode cX1_apply 67 = .ok (.iload_n 2, 1) := by decide +kernel
theorem dX1_apply_68 : decode cX1_apply 68 = .ok (.aload_n 0, 1) := by decide +kernel
theorem dX1_apply_69 : decode cX1_apply 69 = .ok (.iload_n 2, 1) := by decide +kernel
theorem dX1_apply_70 : decode cX1_apply 70 = .ok (.invokevirtual 40, 3) := by decide +kernel
theorem dX1_apply_73 : decode cX1_apply 73 = .ok (.iload_n 3, 1) := by decide +kernel
theorem dX1_apply_74 : decode cX1_apply 74 = .ok (.iadd, 1) := by decide +kernel
theorem dX1_apply_75 : decode cX1_apply 75 = .ok (.iconst 1, 1) := by decide +kernel
theorem dX1_apply_76 : decode cX1_apply 76 = .ok (.isub, 1) := by decide +kernel
theorem dX1_apply_77 : decode cX1_apply 77 = .ok (.invokevirtual 71, 3) := by decide +kernel
theorem dX1_apply_80 : decode cX1_apply 80 = .ok (.goto 21, 3) := by decide +kernel
theorem dX1_apply_83 : decode cX1_apply 83 = .ok (.aload_n 0, 1) := by decide +kernel
theorem dX1_apply_84 : decode cX1_apply 84 = .ok (.iload_n 2, 1) := by decide +kernel
theorem dX1_apply_85 : decode cX1_apply 85 = .ok (.aload_n 0, 1) := by decide +kernel
theorem dX1_apply_86 : decode cX1_apply 86 = .ok (.iload_n 3, 1) := by decide +kernel
theorem dX1_apply_87 : decode cX1_apply 87 = .ok (.invokevirtual 40, 3) := by decide +kernel
theorem dX1_apply_90 : decode cX1_apply 90 = .ok (.invokevirtual 71, 3) := by decide +kernel
theorem dX1_apply_93 : decode cX1_apply 93 = .ok (.goto 8, 3) := by decide +kernel
theorem dX1_apply_96 : decode cX1_apply 96 = .ok (.aload_n 0, 1) := by decide +kernel
theorem dX1_apply_97 : decode cX1_apply 97 = .ok (.iload_n 3, 1) := by decide +kernel
theorem dX1_apply_98 : decode cX1_apply 98 = .ok (.invokevirtual 57, 3) := by decide +kernel
theorem dX1_apply_101 : decode cX1_apply 101 = .ok (.return_, 1) := by decide +kernel
theorem dX1_goOnHearing_0 : decode cX1_goOnHearing 0 = .ok (.aload_n 0, 1) := by decide +kernel
theorem dX1_goOnHearing_1 : decode cX1_goOnHearing 1 = .ok (.getfield 25, 3) := by decide +kernel
theorem dX1_goOnHearing_4 : decode cX1_goOnHearing 4 = .ok (.ifCond .lt 15, 3) := by decide +kernel
theorem dX1_goOnHearing_7 : decode cX1_goOnHearing 7 = .ok (.aload_n 0, 1) := by decide +kernel
theorem dX1_goOnHearing_8 : decode cX1_goOnHearing 8 = .ok (.getfield 25, 3) := by decide +kernel
theorem dX1_goOnHearing_11 : decode cX1_goOnHearing 11 = .ok (.aload_n 0, 1) := by decide +kernel
theorem dX1_goOnHearing_12 : decode cX1_goOnHearing 12 = .ok (.getfield 9, 3) := by decide +kernel
theorem dX1_goOnHearing_15 : decode cX1_goOnHearing 15 = .ok (.arraylength, 1) := by decide +kernel
theorem dX1_goOnHearing_16 : decode cX1_goOnHearing 16 = .ok (.if_icmp .lt 4, 3) := by decide +kernel
theorem dX1_goOnHearing_19 : decode cX1_goOnHearing 19 = .ok (.return_, 1) := by decide +kernel
theorem dX1_goOnHearing_20 : decode cX1_goOnHearing 20 = .ok (.aload_n 0, 1) := by decide +kernel
theorem dX1_goOnHearing_21 : decode cX1_goOnHearing 21 = .ok (.getfield 9, 3) := by decide +kernel
theorem dX1_goOnHearing_24 : decode cX1_goOnHearing 24 = .ok (.aload_n 0, 1) := by decide +kernel
theorem dX1_goOnHearing_25 : decode cX1_goOnHearing 25 = .ok (.getfield 25, 3) := by decide +kernel
theorem dX1_goOnHearing_28 : decode cX1_goOnHearing 28 = .ok (.iload_n 1, 1) := by decide +kernel
theorem dX1_goOnHearing_29 : decode cX1_goOnHearing 29 = .ok (.iastore, 1) := by decide +kernel
theorem dX1_goOnHearing_30 : decode cX1_goOnHearing 30 = .ok (.aload_n 0, 1) := by decide +kernel
theorem dX1_goOnHearing_31 : decode cX1_goOnHearing 31 = .ok (.dup, 1) := by decide +kernel
theorem dX1_goOnHearing_32 : decode cX1_goOnHearing 32 = .ok (.getfield 25, 3) := by decide +kernel
theorem dX1_goOnHearing_35 : decode cX1_goOnHearing 35 = .ok (.iconst 1, 1) := by decide +kernel
theorem dX1_goOnHearing_36 : decode cX1_goOnHearing 36 = .ok (.iadd, 1) := by decide +kernel
theorem dX1_goOnHearing_37 : decode cX1_goOnHearing 37 = .ok (.putfield 25, 3) := by decide +kernel
theorem dX1_goOnHearing_40 : decode cX1_goOnHearing 40 = .ok (.return_, 1) := by decide +kernel
theorem dX1_setOut_0 : decode cX1_setOut 0 = .ok (.iload_n 1, 1) := by decide +kernel
theorem dX1_setOut_1 : decode cX1_setOut 1 = .ok (.ifCond .lt 19, 3) := by decide +kernel
theorem dX1_setOut_4 : decode cX1_setOut 4 = .ok (.iload_n 1, 1) := by decide +kernel
theorem dX1_setOut_5 : decode cX1_setOut 5 = .ok (.aload_n 0, 1) := by decide +kernel
theorem dX1_setOut_6 : decode cX1_setOut 6 = .ok (.getfield 18, 3) := by decide +kernel
theorem dX1_setOut_9 : decode cX1_setOut 9 = .ok (.arraylength, 1) := by decide +kernel
theorem dX1_setOut_10 : decode cX1_setOut 10 = .ok (.if_icmp .ge 10, 3) := by decide +kernel
theorem dX1_setOut_13 : decode cX1_setOut 13 = .ok (.aload_n 0, 1) := by decide +kernel
theorem dX1_setOut_14 : decode cX1_setOut 14 = .ok (.getfield 18, 3) := by decide +kernel
theorem dX1_setOut_17 : decode cX1_setOut 17 = .ok (.iload_n 1, 1) := by decide +kernel
theorem dX1_setOut_18 : decode cX1_setOut 18 = .ok (.iload_n 2, 1) := by decide +kernel
theorem dX1_setOut_19 : decode cX1_setOut 19 = .ok (.iastore, 1) := by decide +kernel
theorem dX1_setOut_20 : decode cX1_setOut 20 = .ok (.return_, 1) := by decide +kernel
theorem dX1_beginAt_0 : decode cX1_beginAt 0 = .ok (.aload_n 0, 1) := by decide +kernel
theorem dX1_beginAt_1 : decode cX1_beginAt 1 = .ok (.iload_n 1, 1) := by decide +kernel
theorem dX1_beginAt_2 : decode cX1_beginAt 2 = .ok (.putfield 25, 3) := by decide +kernel
theorem dX1_beginAt_5 : decode cX1_beginAt 5 = .ok (.aload_n 0, 1) := by decide +kernel
theorem dX1_beginAt_6 : decode cX1_beginAt 6 = .ok (.iload_n 1, 1) := by decide +kernel
theorem dX1_beginAt_7 : decode cX1_beginAt 7 = .ok (.putfield 37, 3) := by decide +kernel
theorem dX1_beginAt_10 : decode cX1_beginAt 10 = .ok (.aload_n 0, 1) := by decide +kernel
theorem dX1_beginAt_11 : decode cX1_beginAt 11 = .ok (.getfield 18, 3) := by decide +kernel
theorem dX1_beginAt_14 : decode cX1_beginAt 14 = .ok (.iconst 0, 1) := by decide +kernel
theorem dX1_beginAt_15 : decode cX1_beginAt 15 = .ok (.invokestatic 75, 3) := by decide +kernel
theorem dX1_beginAt_18 : decode cX1_beginAt 18 = .ok (.return_, 1) := by decide +kernel
theorem dX2_init_0 : decode cX2_init 0 = .ok (.aload_n 0, 1) := by decide +kernel
theorem dX2_init_1 : decode cX2_init 1 = .ok (.invokespecial 3, 3) := by decide +kernel
theorem dX2_init_4 : decode cX2_init 4 = .ok (.aload_n 0, 1) := by decide +kernel
theorem dX2_init_5 : decode cX2_init 5 = .ok (.iconst 4, 1) := by decide +kernel
theorem dX2_init_6 : decode cX2_init 6 = .ok (.newarray .int, 2) := by decide +kernel
theorem dX2_init_8 : decode cX2_init 8 = .ok (.putfield 9, 3) := by decide +kernel
theorem dX2_init_11 : decode cX2_init 11 = .ok (.aload_n 0, 1) := by decide +kernel
theorem dX2_init_12 : decode cX2_init 12 = .ok (.iconst 4, 1) := by decide +kernel
theorem dX2_init_13 : decode cX2_init 13 = .ok (.newarray .int, 2) := by decide +kernel
theorem dX2_init_15 : decode cX2_init 15 = .ok (.putfield 15, 3) := by decide +kernel
theorem dX2_init_18 : decode cX2_init 18 = .ok (.aload_n 0, 1) := by decide +kernel
theorem dX2_init_19 : decode cX2_init 19 = .ok (.iconst 4, 1) := by decide +kernel
theorem dX2_init_20 : decode cX2_init 20 = .ok (.newarray .int, 2) := by decide +kernel
theorem dX2_init_22 : decode cX2_init 22 = .ok (.putfield 18, 3) := by decide +kernel
theorem dX2_init_25 : decode cX2_init 25 = .ok (.aload_n 0, 1) := by decide +kernel
theorem dX2_init_26 : decode cX2_init 26 = .ok (.aload_n 1, 1) := by decide +kernel
theorem dX2_init_27 : decode cX2_init 27 = .ok (.putfield 21, 3) := by decide +kernel
theorem dX2_init_30 : decode cX2_init 30 = .ok (.return_, 1) := by decide +kernel
theorem dX2_isRule_0 : decode cX2_isRule 0 = .ok (.iload_n 1, 1) := by decide +kernel
theorem dX2_isRule_1 : decode cX2_isRule 1 = .ok (.ifCond .lt 13, 3) := by decide +kernel
theorem dX2_isRule_4 : decode cX2_isRule 4 = .ok (.iload_n 1, 1) := by decide +kernel
theorem dX2_isRule_5 : decode cX2_isRule 5 = .ok (.bipush 6, 2) := by decide +kernel
theorem dX2_isRule_7 : decode cX2_isRule 7 = .ok (.if_icmp .ge 7, 3) := by decide +kernel
theorem dX2_isRule_10 : decode cX2_isRule 10 = .ok (.iconst 1, 1) := by decide +kernel
theorem dX2_isRule_11 : decode cX2_isRule 11 = .ok (.goto 4, 3) := by decide +kernel
theorem dX2_isRule_14 : decode cX2_isRule 14 = .ok (.iconst 0, 1) := by decide +kernel
theorem dX2_isRule_15 : decode cX2_isRule 15 = .ok (.ireturn, 1) := by decide +kernel
theorem dX2_spot_0 : decode cX2_spot 0 = .ok (.aload_n 0, 1) := by decide +kernel
theorem dX2_spot_1 : decode cX2_spot 1 = .ok (.getfield 15, 3) := by decide +kernel
theorem dX2_spot_4 : decode cX2_spot 4 = .ok (.iconst 0, 1) := by decide +kernel
theorem dX2_spot_5 : decode cX2_spot 5 = .ok (.iaload, 1) := by decide +kernel
theorem dX2_spot_6 : decode cX2_spot 6 = .ok (.ireturn, 1) := by decide +kernel
theorem dX2_barsFrom_0 : decode cX2_barsFrom 0 = .ok (.iconst 0, 1) := by decide +kernel
theorem dX2_barsFrom_1 : decode cX2_barsFrom 1 = .ok (.istore_n 3, 1) := by decide +kernel
theorem dX2_barsFrom_2 : decode cX2_barsFrom 2 = .ok (.iload_n 3, 1) := by decide +kernel
theorem dX2_barsFrom_3 : decode cX2_barsFrom 3 = .ok (.aload_n 0, 1) := by decide +kernel
theorem dX2_barsFrom_4 : decode cX2_barsFrom 4 = .ok (.getfield 15, 3) := by decide +kernel
theorem dX2_barsFrom_7 : decode cX2_barsFrom 7 = .ok (.arraylength, 1) := by decide +kernel
theorem dX2_barsFrom_8 : decode cX2_barsFrom 8 = .ok (.if_icmp .ge 24, 3) := by decide +kernel
theorem dX2_barsFrom_11 : decode cX2_barsFrom 11 = .ok (.iload_n 3, 1) := by decide +kernel
theorem dX2_barsFrom_12 : decode cX2_barsFrom 12 = .ok (.aload_n 1, 1) := by decide +kernel
theorem dX2_barsFrom_13 : decode cX2_barsFrom 13 = .ok (.arraylength, 1) := by decide +kernel
theorem dX2_barsFrom_14 : decode cX2_barsFrom 14 = .ok (.if_icmp .ge 18, 3) := by decide +kernel
theorem dX2_barsFrom_17 : decode cX2_barsFrom 17 = .ok (.aload_n 0, 1) := by decide +kernel
theorem dX2_barsFrom_18 : decode cX2_barsFrom 18 = .ok (.getfield 15, 3) := by decide +kernel
theorem dX2_barsFrom_21 : decode cX2_barsFrom 21 = .ok (.iload_n 3, 1) := by decide +kernel
theorem dX2_barsFrom_22 : decode cX2_barsFrom 22 = .ok (.aload_n 1, 1) := by decide +kernel
theorem dX2_barsFrom_23 : decode cX2_barsFrom 23 = .ok (.iload_n 3, 1) := by decide +kernel
theorem dX2_barsFrom_24 : decode cX2_barsFrom 24 = .ok (.iaload, 1) := by decide +kernel
theorem dX2_barsFrom_25 : decode cX2_barsFrom 25 = .ok (.iastore, 1) := by decide +kernel
theorem dX2_barsFrom_26 : decode cX2_barsFrom 26 = .ok (.iinc 3 1, 3) := by decide +kernel
theorem dX2_barsFrom_29 : decode cX2_barsFrom 29 = .ok (.goto (-27), 3) := by decide +kernel
theorem dX2_barsFrom_32 : decode cX2_barsFrom 32 = .ok (.iconst 0, 1) := by decide +kernel
theorem dX2_barsFrom_33 : decode cX2_barsFrom 33 = .ok (.istore_n 3, 1) := by decide +kernel
theorem dX2_barsFrom_34 : decode cX2_barsFrom 34 = .ok (.iload_n 3, 1) := by decide +kernel
theorem dX2_barsFrom_35 : decode cX2_barsFrom 35 = .ok (.bipush 20, 2) := by decide +kernel
theorem dX2_barsFrom_37 : decode cX2_barsFrom 37 = .ok (.if_icmp .gt 23, 3) := by decide +kernel
theorem dX2_barsFrom_40 : decode cX2_barsFrom 40 = .ok (.aload_n 0, 1) := by decide +kernel
theorem dX2_barsFrom_41 : decode cX2_barsFrom 41 = .ok (.invokevirtual 25, 3) := by decide +kernel
theorem dX2_barsFrom_44 : decode cX2_barsFrom 44 = .ok (.ifCond .eq 5, 3) := by decide +kernel
theorem dX2_barsFrom_47 : decode cX2_barsFrom 47 = .ok (.iload_n 3, 1) := by decide +kernel
theorem dX2_barsFrom_48 : decode cX2_barsFrom 48 = .ok (.ireturn, 1) := by decide +kernel
theorem dX2_barsFrom_49 : decode cX2_barsFrom 49 = .ok (.aload_n 0, 1) := by decide +kernel
theorem dX2_barsFrom_50 : decode cX2_barsFrom 50 = .ok (.iload_n 2, 1) := by decide +kernel
theorem dX2_barsFrom_51 : decode cX2_barsFrom 51 = .ok (.invokevirtual 29, 3) := by decide +kernel
theorem dX2_barsFrom_54 : decode cX2_barsFrom 54 = .ok (.iinc 3 1, 3) := by decide +kernel
theorem dX2_barsFrom_57 : decode cX2_barsFrom 57 = .ok (.goto (-23), 3) := by decide +kernel
theorem dX2_barsFrom_60 : decode cX2_barsFrom 60 = .ok (.bipush (-9), 2) := by decide +kernel
theorem dX2_barsFrom_62 : decode cX2_barsFrom 62 = .ok (.ireturn, 1) := by decide +kernel
theorem dX2_countMeeting_0 : decode cX2_countMeeting 0 = .ok (.iconst 0, 1) := by decide +kernel
theorem dX2_countMeeting_1 : decode cX2_countMeeting 1 = .ok (.istore_n 2, 1) := by decide +kernel
theorem dX2_countMeeting_2 : decode cX2_countMeeting 2 = .ok (.aload_n 0, 1) := by decide +kernel
theorem dX2_countMeeting_3 : decode cX2_countMeeting 3 = .ok (.getfield 21, 3) := by decide +kernel
theorem dX2_countMeeting_6 : decode cX2_countMeeting 6 = .ok (.getfield 33, 3) := by decide +kernel
theorem dX2_countMeeting_9 : decode cX2_countMeeting 9 = .ok (.invokestatic 39, 3) := by decide +kernel
theorem dX2_countMeeting_12 : decode cX2_countMeeting 12 = .ok (.istore_n 3, 1) := by decide +kernel
theorem dX2_countMeeting_13 : decode cX2_countMeeting 13 = .ok (.iconst 0, 1) := by decide +kernel
theorem dX2_countMeeting_14 : decode cX2_countMeeting 14 = .ok (.istore 4, 2) := by decide +kernel
theorem dX2_countMeeting_16 : decode cX2_countMeeting 16 = .ok (.iload 4, 2) := by decide +kernel
theorem dX2_countMeeting_18 : decode cX2_countMeeting 18 = .ok (.iload_n 3, 1) := by decide +kernel
theorem dX2_countMeeting_19 : decode cX2_countMeeting 19 = .ok (.if_icmp .ge 35, 3) := by decide +kernel
theorem dX2_countMeeting_22 : decode cX2_countMeeting 22 = .ok (.iload 4, 2) := by decide +kernel
theorem dX2_countMeeting_24 : decode cX2_countMeeting 24 = .ok (.aload_n 0, 1) := by decide +kernel
theorem dX2_countMeeting_25 : decode cX2_countMeeting 25 = .ok (.getfield 9, 3) := by decide +kernel
theorem dX2_countMeeting_28 : decode cX2_countMeeting 28 = .ok (.invokestatic 43, 3) := by decide +kernel
theorem dX2_countMeeting_31 : decode cX2_countMeeting 31 = .ok (.aload_n 0, 1) := by decide +kernel
theorem dX2_countMeeting_32 : decode cX2_countMeeting 32 = .ok (.aload_n 0, 1) := by decide +kernel
theorem dX2_countMeeting_33 : decode cX2_countMeeting 33 = .ok (.getfield 9, 3) := by decide +kernel
theorem dX2_countMeeting_36 : decode cX2_countMeeting 36 = .ok (.iload_n 1, 1) := by decide +kernel
theorem dX2_countMeeting_37 : decode cX2_countMeeting 37 = .ok (.invokevirtual 47, 3) := by decide +kernel
theorem dX2_countMeeting_40 : decode cX2_countMeeting 40 = .ok (.bipush (-9), 2) := by decide +kernel
theorem dX2_countMeeting_42 : decode cX2_countMeeting 42 = .ok (.if_icmp .eq 6, 3) := by decide +kernel
theorem dX2_countMeeting_45 : decode cX2_countMeeting 45 = .ok (.iinc 2 1, 3) := by decide +kernel
theorem dX2_countMeeting_48 : decode cX2_countMeeting 48 = .ok (.iinc 4 1, 3) := by decide +kernel
theorem dX2_countMeeting_51 : decode cX2_countMeeting 51 = .ok (.goto (-35), 3) := by decide +kernel
theorem dX2_countMeeting_54 : decode cX2_countMeeting 54 = .ok (.iload_n 2, 1) := by decide +kernel
theorem dX2_countMeeting_55 : decode cX2_countMeeting 55 = .ok (.ireturn, 1) := by decide +kernel
theorem dX2_areAtOne_0 : decode cX2_areAtOne 0 = .ok (.iconst 1, 1) := by decide +kernel
theorem dX2_areAtOne_1 : decode cX2_areAtOne 1 = .ok (.istore_n 1, 1) := by decide +kernel
theorem dX2_areAtOne_2 : decode cX2_areAtOne 2 = .ok (.iload_n 1, 1) := by decide +kernel
theorem dX2_areAtOne_3 : decode cX2_areAtOne 3 = .ok (.aload_n 0, 1) := by decide +kernel
theorem dX2_areAtOne_4 : decode cX2_areAtOne 4 = .ok (.getfield 21, 3) := by decide +kernel
theorem dX2_areAtOne_7 : decode cX2_areAtOne 7 = .ok (.getfield 33, 3) := by decide +kernel
theorem dX2_areAtOne_10 : decode cX2_areAtOne 10 = .ok (.if_icmp .ge 26, 3) := by decide +kernel
theorem dX2_areAtOne_13 : decode cX2_areAtOne 13 = .ok (.aload_n 0, 1) := by decide +kernel
theorem dX2_areAtOne_14 : decode cX2_areAtOne 14 = .ok (.getfield 15, 3) := by decide +kernel
theorem dX2_areAtOne_17 : decode cX2_areAtOne 17 = .ok (.iload_n 1, 1) := by decide +kernel
theorem dX2_areAtOne_18 : decode cX2_areAtOne 18 = .ok (.iaload, 1) := by decide +kernel
theorem dX2_areAtOne_19 : decode cX2_areAtOne 19 = .ok (.aload_n 0, 1) := by decide +kernel
theorem dX2_areAtOne_20 : decode cX2_areAtOne 20 = .ok (.getfield 15, 3) := by decide +kernel
theorem dX2_areAtOne_23 : decode cX2_areAtOne 23 = .ok (.iconst 0, 1) := by decide +kernel
theorem dX2_areAtOne_24 : decode cX2_areAtOne 24 = .ok (.iaload, 1) := by decide +kernel
theorem dX2_areAtOne_25 : decode cX2_areAtOne 25 = .ok (.if_icmp .eq 5, 3) := by decide +kernel
theorem dX2_areAtOne_28 : decode cX2_areAtOne 28 = .ok (.iconst 0, 1) := by decide +kernel
theorem dX2_areAtOne_29 : decode cX2_areAtOne 29 = .ok (.ireturn, 1) := by decide +kernel
theorem dX2_areAtOne_30 : decode cX2_areAtOne 30 = .ok (.iinc 1 1, 3) := by decide +kernel
theorem dX2_areAtOne_33 : decode cX2_areAtOne 33 = .ok (.goto (-31), 3) := by decide +kernel
theorem dX2_areAtOne_36 : decode cX2_areAtOne 36 = .ok (.iconst 1, 1) := by decide +kernel
theorem dX2_areAtOne_37 : decode cX2_areAtOne 37 = .ok (.ireturn, 1) := by decide +kernel
theorem dX2_goOneBar_0 : decode cX2_goOneBar 0 = .ok (.iload_n 1, 1) := by decide +kernel
theorem dX2_goOneBar_1 : decode cX2_goOneBar 1 = .ok (.iconst 2, 1) := by decide +kernel
theorem dX2_goOneBar_2 : decode cX2_goOneBar 2 = .ok (.if_icmp .eq 8, 3) := by decide +kernel
theorem dX2_goOneBar_5 : decode cX2_goOneBar 5 = .ok (.iload_n 1, 1) := by decide +kernel
theorem dX2_goOneBar_6 : decode cX2_goOneBar 6 = .ok (.iconst 4, 1) := by decide +kernel
theorem dX2_goOneBar_7 : decode cX2_goOneBar 7 = .ok (.if_icmp .ne 10, 3) := by decide +kernel
theorem dX2_goOneBar_10 : decode cX2_goOneBar 10 = .ok (.aload_n 0, 1) := by decide +kernel
theorem dX2_goOneBar_11 : decode cX2_goOneBar 11 = .ok (.invokevirtual 51, 3) := by decide +kernel
theorem dX2_goOneBar_14 : decode cX2_goOneBar 14 = .ok (.goto 4, 3) := by decide +kernel
theorem dX2_goOneBar_17 : decode cX2_goOneBar 17 = .ok (.iconst 0, 1) := by decide +kernel
theorem dX2_goOneBar_18 : decode cX2_goOneBar 18 = .ok (.istore_n 2, 1) := by decide +kernel
theorem dX2_goOneBar_19 : decode cX2_goOneBar 19 = .ok (.aload_n 0, 1) := by decide +kernel
theorem dX2_goOneBar_20 : decode cX2_goOneBar 20 = .ok (.invokevirtual 55, 3) := by decide +kernel
theorem dX2_goOneBar_23 : decode cX2_goOneBar 23 = .ok (.istore_n 3, 1) := by decide +kernel
theorem dX2_goOneBar_24 : decode cX2_goOneBar 24 = .ok (.aload_n 0, 1) := by decide +kernel
theorem dX2_goOneBar_25 : decode cX2_goOneBar 25 = .ok (.invokevirtual 58, 3) := by decide +kernel
theorem dX2_goOneBar_28 : decode cX2_goOneBar 28 = .ok (.istore 4, 2) := by decide +kernel
theorem dX2_goOneBar_30 : decode cX2_goOneBar 30 = .ok (.iconst 0, 1) := by decide +kernel
theorem dX2_goOneBar_31 : decode cX2_goOneBar 31 = .ok (.istore 5, 2) := by decide +kernel
theorem dX2_goOneBar_33 : decode cX2_goOneBar 33 = .ok (.iload 5, 2) := by decide +kernel
theorem dX2_goOneBar_35 : decode cX2_goOneBar 35 = .ok (.aload_n 0, 1) := by decide +kernel
theorem dX2_goOneBar_36 : decode cX2_goOneBar 36 = .ok (.getfield 21, 3) := by decide +kernel
theorem dX2_goOneBar_39 : decode cX2_goOneBar 39 = .ok (.getfield 33, 3) := by decide +kernel
theorem dX2_goOneBar_42 : decode cX2_goOneBar 42 = .ok (.if_icmp .ge 166, 3) := by decide +kernel
theorem dX2_goOneBar_45 : decode cX2_goOneBar 45 = .ok (.iload_n 1, 1) := by decide +kernel
theorem dX2_goOneBar_46 : decode cX2_goOneBar 46 = .ok (.tableswitch 142 1 5 #[34, 50, 61, 98, 119], 34) := by decide +kernel
theorem dX2_goOneBar_80 : decode cX2_goOneBar 80 = .ok (.aload_n 0, 1) := by decide +kernel
theorem dX2_goOneBar_81 : decode cX2_goOneBar 81 = .ok (.getfield 18, 3) := by decide +kernel
theorem dX2_goOneBar_84 : decode cX2_goOneBar 84 = .ok (.iload 5, 2) := by decide +kernel
theorem dX2_goOneBar_86 : decode cX2_goOneBar 86 = .ok (.aload_n 0, 1) := by decide +kernel
theorem dX2_goOneBar_87 : decode cX2_goOneBar 87 = .ok (.getfield 15, 3) := by decide +kernel
theorem dX2_goOneBar_90 : decode cX2_goOneBar 90 = .ok (.iconst 0, 1) := by decide +kernel
theorem dX2_goOneBar_91 : decode cX2_goOneBar 91 = .ok (.iaload, 1) := by decide +kernel
theorem dX2_goOneBar_92 : decode cX2_goOneBar 92 = .ok (.iastore, 1) := by decide +kernel
theorem dX2_goOneBar_93 : decode cX2_goOneBar 93 = .ok (.goto 109, 3) := by decide +kernel
theorem dX2_goOneBar_96 : decode cX2_goOneBar 96 = .ok (.aload_n 0, 1) := by decide +kernel
theorem dX2_goOneBar_97 : decode cX2_goOneBar 97 = .ok (.getfield 18, 3) := by decide +kernel
theorem dX2_goOneBar_100 : decode cX2_goOneBar 100 = .ok (.iload 5, 2) := by decide +kernel
theorem dX2_goOneBar_102 : decode cX2_goOneBar 102 = .ok (.iload_n 2, 1) := by decide +kernel
theorem dX2_goOneBar_103 : decode cX2_goOneBar 103 = .ok (.iastore, 1) := by decide +kernel
theorem dX2_goOneBar_104 : decode cX2_goOneBar 104 = .ok (.goto 98, 3) := by decide +kernel
theorem dX2_goOneBar_107 : decode cX2_goOneBar 107 = .ok (.aload_n 0, 1) := by decide +kernel
theorem dX2_goOneBar_108 : decode cX2_goOneBar 108 = .ok (.getfield 18, 3) := by decide +kernel
theorem dX2_goOneBar_111 : decode cX2_goOneBar 111 = .ok (.iload 5, 2) := by decide +kernel
theorem dX2_goOneBar_113 : decode cX2_goOneBar 113 = .ok (.aload_n 0, 1) := by decide +kernel
theorem dX2_goOneBar_114 : decode cX2_goOneBar 114 = .ok (.getfield 15, 3) := by decide +kernel
theorem dX2_goOneBar_117 : decode cX2_goOneBar 117 = .ok (.iload 5, 2) := by decide +kernel
theorem dX2_goOneBar_119 : decode cX2_goOneBar 119 = .ok (.iaload, 1) := by decide +kernel
theorem dX2_goOneBar_120 : decode cX2_goOneBar 120 = .ok (.aload_n 0, 1) := by decide +kernel
theorem dX2_goOneBar_121 : decode cX2_goOneBar 121 = .ok (.getfield 15, 3) := by decide +kernel
theorem dX2_goOneBar_124 : decode cX2_goOneBar 124 = .ok (.iload 5, 2) := by decide +kernel
theorem dX2_goOneBar_126 : decode cX2_goOneBar 126 = .ok (.iconst 1, 1) := by decide +kernel
theorem dX2_goOneBar_127 : decode cX2_goOneBar 127 = .ok (.iadd, 1) := by decide +kernel
theorem dX2_goOneBar_128 : decode cX2_goOneBar 128 = .ok (.aload_n 0, 1) := by decide +kernel
theorem dX2_goOneBar_129 : decode cX2_goOneBar 129 = .ok (.getfield 21, 3) := by decide +kernel
theorem dX2_goOneBar_132 : decode cX2_goOneBar 132 = .ok (.getfield 33, 3) := by decide +kernel
theorem dX2_goOneBar_135 : decode cX2_goOneBar 135 = .ok (.irem, 1) := by decide +kernel
theorem dX2_goOneBar_136 : decode cX2_goOneBar 136 = .ok (.iaload, 1) := by decide +kernel
theorem dX2_goOneBar_137 : decode cX2_goOneBar 137 = .ok (.invokestatic 61, 3) := by decide +kernel
theorem dX2_goOneBar_140 : decode cX2_goOneBar 140 = .ok (.iastore, 1) := by decide +kernel
theorem dX2_goOneBar_141 : decode cX2_goOneBar 141 = .ok (.goto 61, 3) := by decide +kernel
theorem dX2_goOneBar_144 : decode cX2_goOneBar 144 = .ok (.aload_n 0, 1) := by decide +kernel
theorem dX2_goOneBar_145 : decode cX2_goOneBar 145 = .ok (.getfield 18, 3) := by decide +kernel
theorem dX2_goOneBar_148 : decode cX2_goOneBar 148 = .ok (.iload 5, 2) := by decide +kernel
theorem dX2_goOneBar_150 : decode cX2_goOneBar 150 = .ok (.aload_n 0, 1) := by decide +kernel
theorem dX2_goOneBar_151 : decode cX2_goOneBar 151 = .ok (.getfield 15, 3) := by decide +kernel
theorem dX2_goOneBar_154 : decode cX2_goOneBar 154 = .ok (.iload 5, 2) := by decide +kernel
theorem dX2_goOneBar_156 : decode cX2_goOneBar 156 = .ok (.iaload, 1) := by decide +kernel
theorem dX2_goOneBar_157 : decode cX2_goOneBar 157 = .ok (.iload_n 2, 1) := by decide +kernel
theorem dX2_goOneBar_158 : decode cX2_goOneBar 158 = .ok (.invokestatic 61, 3) := by decide +kernel
theorem dX2_goOneBar_161 : decode cX2_goOneBar 161 = .ok (.iastore, 1) := by decide +kernel
theorem dX2_goOneBar_162 : decode cX2_goOneBar 162 = .ok (.goto 40, 3) := by decide +kernel
theorem dX2_goOneBar_165 : decode cX2_goOneBar 165 = .ok (.aload_n 0, 1) := by decide +kernel
theorem dX2_goOneBar_166 : decode cX2_goOneBar 166 = .ok (.getfield 18, 3) := by decide +kernel
theorem dX2_goOneBar_169 : decode cX2_goOneBar 169 = .ok (.iload 5, 2) := by decide +kernel
theorem dX2_goOneBar_171 : decode cX2_goOneBar 171 = .ok (.aload_n 0, 1) := by decide +kernel
theorem dX2_goOneBar_172 : decode cX2_goOneBar 172 = .ok (.getfield 15, 3) := by decide +kernel
theorem dX2_goOneBar_175 : decode cX2_goOneBar 175 = .ok (.iload 5, 2) := by decide +kernel
theorem dX2_goOneBar_177 : decode cX2_goOneBar 177 = .ok (.iaload, 1) := by decide +kernel
theorem dX2_goOneBar_178 : decode cX2_goOneBar 178 = .ok (.iload_n 3, 1) := by decide +kernel
theorem dX2_goOneBar_179 : decode cX2_goOneBar 179 = .ok (.iload 4, 2) := by decide +kernel
theorem dX2_goOneBar_181 : decode cX2_goOneBar 181 = .ok (.invokestatic 65, 3) := by decide +kernel
theorem dX2_goOneBar_184 : decode cX2_goOneBar 184 = .ok (.iastore, 1) := by decide +kernel
theorem dX2_goOneBar_185 : decode cX2_goOneBar 185 = .ok (.goto 17, 3) := by decide +kernel
theorem dX2_goOneBar_188 : decode cX2_goOneBar 188 = .ok (.aload_n 0, 1) := by decide +kernel
theorem dX2_goOneBar_189 : decode cX2_goOneBar 189 = .ok (.getfield 18, 3) := by decide +kernel
theorem dX2_goOneBar_192 : decode cX2_goOneBar 192 = .ok (.iload 5, 2) := by decide +kernel
theorem dX2_goOneBar_194 : decode cX2_goOneBar 194 = .ok (.aload_n 0, 1) := by decide +kernel
theorem dX2_goOneBar_195 : decode cX2_goOneBar 195 = .ok (.getfield 15, 3) := by decide +kernel
theorem dX2_goOneBar_198 : decode cX2_goOneBar 198 = .ok (.iload 5, 2) := by decide +kernel
theorem dX2_goOneBar_200 : decode cX2_goOneBar 200 = .ok (.iaload, 1) := by decide +kernel
theorem dX2_goOneBar_201 : decode cX2_goOneBar 201 = .ok (.iastore, 1) := by decide +kernel
theorem dX2_goOneBar_202 : decode cX2_goOneBar 202 = .ok (.iinc 5 1, 3) := by decide +kernel
theorem dX2_goOneBar_205 : decode cX2_goOneBar 205 = .ok (.goto (-172), 3) := by decide +kernel
theorem dX2_goOneBar_208 : decode cX2_goOneBar 208 = .ok (.aload_n 0, 1) := by decide +kernel
theorem dX2_goOneBar_209 : decode cX2_goOneBar 209 = .ok (.getfield 18, 3) := by decide +kernel
theorem dX2_goOneBar_212 : decode cX2_goOneBar 212 = .ok (.iconst 0, 1) := by decide +kernel
theorem dX2_goOneBar_213 : decode cX2_goOneBar 213 = .ok (.aload_n 0, 1) := by decide +kernel
theorem dX2_goOneBar_214 : decode cX2_goOneBar 214 = .ok (.getfield 15, 3) := by decide +kernel
theorem dX2_goOneBar_217 : decode cX2_goOneBar 217 = .ok (.iconst 0, 1) := by decide +kernel
theorem dX2_goOneBar_218 : decode cX2_goOneBar 218 = .ok (.aload_n 0, 1) := by decide +kernel
theorem dX2_goOneBar_219 : decode cX2_goOneBar 219 = .ok (.getfield 15, 3) := by decide +kernel
theorem dX2_goOneBar_222 : decode cX2_goOneBar 222 = .ok (.arraylength, 1) := by decide +kernel
theorem dX2_goOneBar_223 : decode cX2_goOneBar 223 = .ok (.invokestatic 69, 3) := by decide +kernel
theorem dX2_goOneBar_226 : decode cX2_goOneBar 226 = .ok (.return_, 1) := by decide +kernel
theorem dX2_stepTowards_0 : decode cX2_stepTowards 0 = .ok (.iload_n 0, 1) := by decide +kernel
theorem dX2_stepTowards_1 : decode cX2_stepTowards 1 = .ok (.iload_n 1, 1) := by decide +kernel
theorem dX2_stepTowards_2 : decode cX2_stepTowards 2 = .ok (.if_icmp .ge 7, 3) := by decide +kernel
theorem dX2_stepTowards_5 : decode cX2_stepTowards 5 = .ok (.iload_n 0, 1) := by decide +kernel
theorem dX2_stepTowards_6 : decode cX2_stepTowards 6 = .ok (.iconst 1, 1) := by decide +kernel
theorem dX2_stepTowards_7 : decode cX2_stepTowards 7 = .ok (.iadd, 1) := by decide +kernel
theorem dX2_stepTowards_8 : decode cX2_stepTowards 8 = .ok (.ireturn, 1) := by decide +kernel
theorem dX2_stepTowards_9 : decode cX2_stepTowards 9 = .ok (.iload_n 0, 1) := by decide +kernel
theorem dX2_stepTowards_10 : decode cX2_stepTowards 10 = .ok (.iload_n 1, 1) := by decide +kernel
theorem dX2_stepTowards_11 : decode cX2_stepTowards 11 = .ok (.if_icmp .le 9, 3) := by decide +kernel
theorem dX2_stepTowards_14 : decode cX2_stepTowards 14 = .ok (.iload_n 0, 1) := by decide +kernel
theorem dX2_stepTowards_15 : decode cX2_stepTowards 15 = .ok (.iconst 1, 1) := by decide +kernel
theorem dX2_stepTowards_16 : decode cX2_stepTowards 16 = .ok (.isub, 1) := by decide +kernel
theorem dX2_stepTowards_17 : decode cX2_stepTowards 17 = .ok (.goto 4, 3) := by decide +kernel
theorem dX2_stepTowards_20 : decode cX2_stepTowards 20 = .ok (.iload_n 0, 1) := by decide +kernel
theorem dX2_stepTowards_21 : decode cX2_stepTowards 21 = .ok (.ireturn, 1) := by decide +kernel
theorem dX2_drawnIn_0 : decode cX2_drawnIn 0 = .ok (.iload_n 1, 1) := by decide +kernel
theorem dX2_drawnIn_1 : decode cX2_drawnIn 1 = .ok (.iload_n 2, 1) := by decide +kernel
theorem dX2_drawnIn_2 : decode cX2_drawnIn 2 = .ok (.if_icmp .ne 5, 3) := by decide +kernel
theorem dX2_drawnIn_5 : decode cX2_drawnIn 5 = .ok (.iload_n 0, 1) := by decide +kernel
theorem dX2_drawnIn_6 : decode cX2_drawnIn 6 = .ok (.ireturn, 1) := by decide +kernel
theorem dX2_drawnIn_7 : decode cX2_drawnIn 7 = .ok (.iload_n 0, 1) := by decide +kernel
theorem dX2_drawnIn_8 : decode cX2_drawnIn 8 = .ok (.iload_n 1, 1) := by decide +kernel
theorem dX2_drawnIn_9 : decode cX2_drawnIn 9 = .ok (.if_icmp .ne 7, 3) := by decide +kernel
theorem dX2_drawnIn_12 : decode cX2_drawnIn 12 = .ok (.iload_n 0, 1) := by decide +kernel
theorem dX2_drawnIn_13 : decode cX2_drawnIn 13 = .ok (.iconst 1, 1) := by decide +kernel
theorem dX2_drawnIn_14 : decode cX2_drawnIn 14 = .ok (.iadd, 1) := by decide +kernel
theorem dX2_drawnIn_15 : decode cX2_drawnIn 15 = .ok (.ireturn, 1) := by decide +kernel
theorem dX2_drawnIn_16 : decode cX2_drawnIn 16 = .ok (.iload_n 0, 1) := by decide +kernel
theorem dX2_drawnIn_17 : decode cX2_drawnIn 17 = .ok (.iload_n 2, 1) := by decide +kernel
theorem dX2_drawnIn_18 : decode cX2_drawnIn 18 = .ok (.if_icmp .ne 9, 3) := by decide +kernel
theorem dX2_drawnIn_21 : decode cX2_drawnIn 21 = .ok (.iload_n 0, 1) := by decide +kernel
theorem dX2_drawnIn_22 : decode cX2_drawnIn 22 = .ok (.iconst 1, 1) := by decide +kernel
theorem dX2_drawnIn_23 : decode cX2_drawnIn 23 = .ok (.isub, 1) := by decide +kernel
theorem dX2_drawnIn_24 : decode cX2_drawnIn 24 = .ok (.goto 4, 3) := by decide +kernel
theorem dX2_drawnIn_27 : decode cX2_drawnIn 27 = .ok (.iload_n 0, 1) := by decide +kernel
theorem dX2_drawnIn_28 : decode cX2_drawnIn 28 = .ok (.ireturn, 1) := by decide +kernel
theorem dX2_lowestSpot_0 : decode cX2_lowestSpot 0 = .ok (.iconst 2, 1) := by decide +kernel
theorem dX2_lowestSpot_1 : decode cX2_lowestSpot 1 = .ok (.istore_n 1, 1) := by decide +kernel
theorem dX2_lowestSpot_2 : decode cX2_lowestSpot 2 = .ok (.iconst 0, 1) := by decide +kernel
theorem dX2_lowestSpot_3 : decode cX2_lowestSpot 3 = .ok (.istore_n 2, 1) := by decide +kernel
theorem dX2_lowestSpot_4 : decode cX2_lowestSpot 4 = .ok (.iload_n 2, 1) := by decide +kernel
theorem dX2_lowestSpot_5 : decode cX2_lowestSpot 5 = .ok (.aload_n 0, 1) := by decide +kernel
theorem dX2_lowestSpot_6 : decode cX2_lowestSpot 6 = .ok (.getfield 21, 3) := by decide +kernel
theorem dX2_lowestSpot_9 : decode cX2_lowestSpot 9 = .ok (.getfield 33, 3) := by decide +kernel
theorem dX2_lowestSpot_12 : decode cX2_lowestSpot 12 = .ok (.if_icmp .ge 20, 3) := by decide +kernel
theorem dX2_lowestSpot_15 : decode cX2_lowestSpot 15 = .ok (.iload_n 1, 1) := by decide +kernel
theorem dX2_lowestSpot_16 : decode cX2_lowestSpot 16 = .ok (.aload_n 0, 1) := by decide +kernel
theorem dX2_lowestSpot_17 : decode cX2_lowestSpot 17 = .ok (.getfield 15, 3) := by decide +kernel
theorem dX2_lowestSpot_20 : decode cX2_lowestSpot 20 = .ok (.iload_n 2, 1) := by decide +kernel
theorem dX2_lowestSpot_21 : decode cX2_lowestSpot 21 = .ok (.iaload, 1) := by decide +kernel
theorem dX2_lowestSpot_22 : decode cX2_lowestSpot 22 = .ok (.invokestatic 75, 3) := by decide +kernel
theorem dX2_lowestSpot_25 : decode cX2_lowestSpot 25 = .ok (.istore_n 1, 1) := by decide +kernel
theorem dX2_lowestSpot_26 : decode cX2_lowestSpot 26 = .ok (.iinc 2 1, 3) := by decide +kernel
theorem dX2_lowestSpot_29 : decode cX2_lowestSpot 29 = .ok (.goto (-25), 3) := by decide +kernel
theorem dX2_lowestSpot_32 : decode cX2_lowestSpot 32 = .ok (.iload_n 1, 1) := by decide +kernel
theorem dX2_lowestSpot_33 : decode cX2_lowestSpot 33 = .ok (.ireturn, 1) := by decide +kernel
theorem dX2_highestSpot_0 : decode cX2_highestSpot 0 = .ok (.bipush (-2), 2) := by decide +kernel
theorem dX2_highestSpot_2 : decode cX2_highestSpot 2 = .ok (.istore_n 1, 1) := by decide +kernel
theorem dX2_highestSpot_3 : decode cX2_highestSpot 3 = .ok (.iconst 0, 1) := by decide +kernel
theorem dX2_highestSpot_4 : decode cX2_highestSpot 4 = .ok (.istore_n 2, 1) := by decide +kernel
theorem dX2_highestSpot_5 : decode cX2_highestSpot 5 = .ok (.iload_n 2, 1) := by decide +kernel
theorem dX2_highestSpot_6 : decode cX2_highestSpot 6 = .ok (.aload_n 0, 1) := by decide +kernel
theorem dX2_highestSpot_7 : decode cX2_highestSpot 7 = .ok (.getfield 21, 3) := by decide +kernel
theorem dX2_highestSpot_10 : decode cX2_highestSpot 10 = .ok (.getfield 33, 3) := by decide +kernel
theorem dX2_highestSpot_13 : decode cX2_highestSpot 13 = .ok (.if_icmp .ge 20, 3) := by decide +kernel
theorem dX2_highestSpot_16 : decode cX2_highestSpot 16 = .ok (.iload_n 1, 1) := by decide +kernel
theorem dX2_highestSpot_17 : decode cX2_highestSpot 17 = .ok (.aload_n 0, 1) := by decide +kernel
theorem dX2_highestSpot_18 : decode cX2_highestSpot 18 = .ok (.getfield 15, 3) := by decide +kernel
theorem dX2_highestSpot_21 : decode cX2_highestSpot 21 = .ok (.iload_n 2, 1) := by decide +kernel
theorem dX2_highestSpot_22 : decode cX2_highestSpot 22 = .ok (.iaload, 1) := by decide +kernel
theorem dX2_highestSpot_23 : decode cX2_highestSpot 23 = .ok (.invokestatic 80, 3) := by decide +kernel
theorem dX2_highestSpot_26 : decode cX2_highestSpot 26 = .ok (.istore_n 1, 1) := by decide +kernel
theorem dX2_highestSpot_27 : decode cX2_highestSpot 27 = .ok (.iinc 2 1, 3) := by decide +kernel
theorem dX2_highestSpot_30 : decode cX2_highestSpot 30 = .ok (.goto (-25), 3) := by decide +kernel
theorem dX2_highestSpot_33 : decode cX2_highestSpot 33 = .ok (.iload_n 1, 1) := by decide +kernel
theorem dX2_highestSpot_34 : decode cX2_highestSpot 34 = .ok (.ireturn, 1) := by decide +kernel
theorem dX2_fullestSpot_0 : decode cX2_fullestSpot 0 = .ok (.iconst 0, 1) := by decide +kernel
theorem dX2_fullestSpot_1 : decode cX2_fullestSpot 1 = .ok (.istore_n 1, 1) := by decide +kernel
theorem dX2_fullestSpot_2 : decode cX2_fullestSpot 2 = .ok (.iconst 0, 1) := by decide +kernel
theorem dX2_fullestSpot_3 : decode cX2_fullestSpot 3 = .ok (.istore_n 2, 1) := by decide +kernel
theorem dX2_fullestSpot_4 : decode cX2_fullestSpot 4 = .ok (.bipush (-2), 2) := by decide +kernel
theorem dX2_fullestSpot_6 : decode cX2_fullestSpot 6 = .ok (.istore_n 3, 1) := by decide +kernel
theorem dX2_fullestSpot_7 : decode cX2_fullestSpot 7 = .ok (.iload_n 3, 1) := by decide +kernel
theorem dX2_fullestSpot_8 : decode cX2_fullestSpot 8 = .ok (.iconst 2, 1) := by decide +kernel
theorem dX2_fullestSpot_9 : decode cX2_fullestSpot 9 = .ok (.if_icmp .gt 58, 3) := by decide +kernel
theorem dX2_fullestSpot_12 : decode cX2_fullestSpot 12 = .ok (.iconst 0, 1) := by decide +kernel
theorem dX2_fullestSpot_13 : decode cX2_fullestSpot 13 = .ok (.istore 4, 2) := by decide +kernel
theorem dX2_fullestSpot_15 : decode cX2_fullestSpot 15 = .ok (.iconst 0, 1) := by decide +kernel
theorem dX2_fullestSpot_16 : decode cX2_fullestSpot 16 = .ok (.istore 5, 2) := by decide +kernel
theorem dX2_fullestSpot_18 : decode cX2_fullestSpot 18 = .ok (.iload 5, 2) := by decide +kernel
theorem dX2_fullestSpot_20 : decode cX2_fullestSpot 20 = .ok (.aload_n 0, 1) := by decide +kernel
theorem dX2_fullestSpot_21 : decode cX2_fullestSpot 21 = .ok (.getfield 21, 3) := by decide +kernel
theorem dX2_fullestSpot_24 : decode cX2_fullestSpot 24 = .ok (.getfield 33, 3) := by decide +kernel
theorem dX2_fullestSpot_27 : decode cX2_fullestSpot 27 = .ok (.if_icmp .ge 23, 3) := by decide +kernel
theorem dX2_fullestSpot_30 : decode cX2_fullestSpot 30 = .ok (.aload_n 0, 1) := by decide +kernel
theorem dX2_fullestSpot_31 : decode cX2_fullestSpot 31 = .ok (.getfield 15, 3) := by decide +kernel
theorem dX2_fullestSpot_34 : decode cX2_fullestSpot 34 = .ok (.iload 5, 2) := by decide +kernel
theorem dX2_fullestSpot_36 : decode cX2_fullestSpot 36 = .ok (.iaload, 1) := by decide +kernel
theorem dX2_fullestSpot_37 : decode cX2_fullestSpot 37 = .ok (.iload_n 3, 1) := by decide +kernel
theorem dX2_fullestSpot_38 : decode cX2_fullestSpot 38 = .ok (.if_icmp .ne 6, 3) := by decide +kernel
theorem dX2_fullestSpot_41 : decode cX2_fullestSpot 41 = .ok (.iinc 4 1, 3) := by decide +kernel
theorem dX2_fullestSpot_44 : decode cX2_fullestSpot 44 = .ok (.iinc 5 1, 3) := by decide +kernel
theorem dX2_fullestSpot_47 : decode cX2_fullestSpot 47 = .ok (.goto (-29), 3) := by decide +kernel
theorem dX2_fullestSpot_50 : decode cX2_fullestSpot 50 = .ok (.iload 4, 2) := by decide +kernel
theorem dX2_fullestSpot_52 : decode cX2_fullestSpot 52 = .ok (.iload_n 2, 1) := by decide +kernel
theorem dX2_fullestSpot_53 : decode cX2_fullestSpot 53 = .ok (.if_icmp .le 8, 3) := by decide +kernel
theorem dX2_fullestSpot_56 : decode cX2_fullestSpot 56 = .ok (.iload 4, 2) := by decide +kernel
theorem dX2_fullestSpot_58 : decode cX2_fullestSpot 58 = .ok (.istore_n 2, 1) := by decide +kernel
theorem dX2_fullestSpot_59 : decode cX2_fullestSpot 59 = .ok (.iload_n 3, 1) := by decide +kernel
theorem dX2_fullestSpot_60 : decode cX2_fullestSpot 60 = .ok (.istore_n 1, 1) := by decide +kernel
theorem dX2_fullestSpot_61 : decode cX2_fullestSpot 61 = .ok (.iinc 3 1, 3) := by decide +kernel
theorem dX2_fullestSpot_64 : decode cX2_fullestSpot 64 = .ok (.goto (-57), 3) := by decide +kernel
theorem dX2_fullestSpot_67 : decode cX2_fullestSpot 67 = .ok (.iload_n 1, 1) := by decide +kernel
theorem dX2_fullestSpot_68 : decode cX2_fullestSpot 68 = .ok (.ireturn, 1) := by decide +kernel
theorem dX3_init_0 : decode cX3_init 0 = .ok (.aload_n 0, 1) := by decide +kernel
theorem dX3_init_1 : decode cX3_init 1 = .ok (.invokespecial 3, 3) := by decide +kernel
theorem dX3_init_4 : decode cX3_init 4 = .ok (.aload_n 0, 1) := by decide +kernel
theorem dX3_init_5 : decode cX3_init 5 = .ok (.bipush 14, 2) := by decide +kernel
theorem dX3_init_7 : decode cX3_init 7 = .ok (.newarray .int, 2) := by decide +kernel
theorem dX3_init_9 : decode cX3_init 9 = .ok (.putfield 9, 3) := by decide +kernel
theorem dX3_init_12 : decode cX3_init 12 = .ok (.aload_n 0, 1) := by decide +kernel
theorem dX3_init_13 : decode cX3_init 13 = .ok (.bipush 56, 2) := by decide +kernel
theorem dX3_init_15 : decode cX3_init 15 = .ok (.newarray .int, 2) := by decide +kernel
theorem dX3_init_17 : decode cX3_init 17 = .ok (.putfield 15, 3) := by decide +kernel
theorem dX3_init_20 : decode cX3_init 20 = .ok (.return_, 1) := by decide +kernel
theorem dX3_take_0 : decode cX3_take 0 = .ok (.aload_n 0, 1) := by decide +kernel
theorem dX3_take_1 : decode cX3_take 1 = .ok (.aload_n 1, 1) := by decide +kernel
theorem dX3_take_2 : decode cX3_take 2 = .ok (.getfield 18, 3) := by decide +kernel
theorem dX3_take_5 : decode cX3_take 5 = .ok (.putfield 24, 3) := by decide +kernel
theorem dX3_take_8 : decode cX3_take 8 = .ok (.aload_n 0, 1) := by decide +kernel
theorem dX3_take_9 : decode cX3_take 9 = .ok (.aload_n 1, 1) := by decide +kernel
theorem dX3_take_10 : decode cX3_take 10 = .ok (.getfield 25, 3) := by decide +kernel
theorem dX3_take_13 : decode cX3_take 13 = .ok (.putfield 28, 3) := by decide +kernel
theorem dX3_take_16 : decode cX3_take 16 = .ok (.aload_n 1, 1) := by decide +kernel
theorem dX3_take_17 : decode cX3_take 17 = .ok (.getfield 29, 3) := by decide +kernel
theorem dX3_take_20 : decode cX3_take 20 = .ok (.iconst 0, 1) := by decide +kernel
theorem dX3_take_21 : decode cX3_take 21 = .ok (.aload_n 0, 1) := by decide +kernel
theorem dX3_take_22 : decode cX3_take 22 = .ok (.getfield 9, 3) := by decide +kernel
theorem dX3_take_25 : decode cX3_take 25 = .ok (.iconst 0, 1) := by decide +kernel
theorem dX3_take_26 : decode cX3_take 26 = .ok (.aload_n 0, 1) := by decide +kernel
theorem dX3_take_27 : decode cX3_take 27 = .ok (.getfield 9, 3) := by decide +kernel
theorem dX3_take_30 : decode cX3_take 30 = .ok (.arraylength, 1) := by decide +kernel
theorem dX3_take_31 : decode cX3_take 31 = .ok (.invokestatic 30, 3) := by decide +kernel
theorem dX3_take_34 : decode cX3_take 34 = .ok (.aload_n 1, 1) := by decide +kernel
theorem dX3_take_35 : decode cX3_take 35 = .ok (.getfield 36, 3) := by decide +kernel
theorem dX3_take_38 : decode cX3_take 38 = .ok (.iconst 0, 1) := by decide +kernel
theorem dX3_take_39 : decode cX3_take 39 = .ok (.aload_n 0, 1) := by decide +kernel
theorem dX3_take_40 : decode cX3_take 40 = .ok (.getfield 15, 3) := by decide +kernel
theorem dX3_take_43 : decode cX3_take 43 = .ok (.iconst 0, 1) := by decide +kernel
theorem dX3_take_44 : decode cX3_take 44 = .ok (.aload_n 0, 1) := by decide +kernel
theorem dX3_take_45 : decode cX3_take 45 = .ok (.getfield 15, 3) := by decide +kernel
theorem dX3_take_48 : decode cX3_take 48 = .ok (.arraylength, 1) := by decide +kernel
theorem dX3_take_49 : decode cX3_take 49 = .ok (.invokestatic 30, 3) := by decide +kernel
theorem dX3_take_52 : decode cX3_take 52 = .ok (.return_, 1) := by decide +kernel
theorem dX3_isEmpty_0 : decode cX3_isEmpty 0 = .ok (.aload_n 0, 1) := by decide +kernel
theorem dX3_isEmpty_1 : decode cX3_isEmpty 1 = .ok (.getfield 28, 3) := by decide +kernel
theorem dX3_isEmpty_4 : decode cX3_isEmpty 4 = .ok (.ifCond .ne 7, 3) := by decide +kernel
theorem dX3_isEmpty_7 : decode cX3_isEmpty 7 = .ok (.iconst 1, 1) := by decide +kernel
theorem dX3_isEmpty_8 : decode cX3_isEmpty 8 = .ok (.goto 4, 3) := by decide +kernel
theorem dX3_isEmpty_11 : decode cX3_isEmpty 11 = .ok (.iconst 0, 1) := by decide +kernel
theorem dX3_isEmpty_12 : decode cX3_isEmpty 12 = .ok (.ireturn, 1) := by decide +kernel
theorem dX3_hasPlace_0 : decode cX3_hasPlace 0 = .ok (.iload_n 1, 1) := by decide +kernel
theorem dX3_hasPlace_1 : decode cX3_hasPlace 1 = .ok (.ifCond .lt 15, 3) := by decide +kernel
theorem dX3_hasPlace_4 : decode cX3_hasPlace 4 = .ok (.iload_n 1, 1) := by decide +kernel
theorem dX3_hasPlace_5 : decode cX3_hasPlace 5 = .ok (.aload_n 0, 1) := by decide +kernel
theorem dX3_hasPlace_6 : decode cX3_hasPlace 6 = .ok (.getfield 28, 3) := by decide +kernel
theorem dX3_hasPlace_9 : decode cX3_hasPlace 9 = .ok (.if_icmp .ge 7, 3) := by decide +kernel
theorem dX3_hasPlace_12 : decode cX3_hasPlace 12 = .ok (.iconst 1, 1) := by decide +kernel
theorem dX3_hasPlace_13 : decode cX3_hasPlace 13 = .ok (.goto 4, 3) := by decide +kernel
theorem dX3_hasPlace_16 : decode cX3_hasPlace 16 = .ok (.iconst 0, 1) := by decide +kernel
theorem dX3_hasPlace_17 : decode cX3_hasPlace 17 = .ok (.ireturn, 1) := by decide +kernel
theorem dX3_hasPlayer_0 : decode cX3_hasPlayer 0 = .ok (.iload_n 1, 1) := by decide +kernel
theorem dX3_hasPlayer_1 : decode cX3_hasPlayer 1 = .ok (.ifCond .lt 15, 3) := by decide +kernel
theorem dX3_hasPlayer_4 : decode cX3_hasPlayer 4 = .ok (.iload_n 1, 1) := by decide +kernel
theorem dX3_hasPlayer_5 : decode cX3_hasPlayer 5 = .ok (.aload_n 0, 1) := by decide +kernel
theorem dX3_hasPlayer_6 : decode cX3_hasPlayer 6 = .ok (.getfield 24, 3) := by decide +kernel
theorem dX3_hasPlayer_9 : decode cX3_hasPlayer 9 = .ok (.if_icmp .ge 7, 3) := by decide +kernel
theorem dX3_hasPlayer_12 : decode cX3_hasPlayer 12 = .ok (.iconst 1, 1) := by decide +kernel
theorem dX3_hasPlayer_13 : decode cX3_hasPlayer 13 = .ok (.goto 4, 3) := by decide +kernel
theorem dX3_hasPlayer_16 : decode cX3_hasPlayer 16 = .ok (.iconst 0, 1) := by decide +kernel
theorem dX3_hasPlayer_17 : decode cX3_hasPlayer 17 = .ok (.ireturn, 1) := by decide +kernel
theorem dX3_kindOf_0 : decode cX3_kindOf 0 = .ok (.iload_n 1, 1) := by decide +kernel
theorem dX3_kindOf_1 : decode cX3_kindOf 1 = .ok (.ifCond .lt 20, 3) := by decide +kernel
theorem dX3_kindOf_4 : decode cX3_kindOf 4 = .ok (.iload_n 1, 1) := by decide +kernel
theorem dX3_kindOf_5 : decode cX3_kindOf 5 = .ok (.aload_n 0, 1) := by decide +kernel
theorem dX3_kindOf_6 : decode cX3_kindOf 6 = .ok (.getfield 28, 3) := by decide +kernel
theorem dX3_kindOf_9 : decode cX3_kindOf 9 = .ok (.if_icmp .ge 12, 3) := by decide +kernel
theorem dX3_kindOf_12 : decode cX3_kindOf 12 = .ok (.aload_n 0, 1) := by decide +kernel
theorem dX3_kindOf_13 : decode cX3_kindOf 13 = .ok (.getfield 9, 3) := by decide +kernel
theorem dX3_kindOf_16 : decode cX3_kindOf 16 = .ok (.iload_n 1, 1) := by decide +kernel
theorem dX3_kindOf_17 : decode cX3_kindOf 17 = .ok (.iaload, 1) := by decide +kernel
theorem dX3_kindOf_18 : decode cX3_kindOf 18 = .ok (.goto 5, 3) := by decide +kernel
theorem dX3_kindOf_21 : decode cX3_kindOf 21 = .ok (.bipush (-9), 2) := by decide +kernel
theorem dX3_kindOf_23 : decode cX3_kindOf 23 = .ok (.ireturn, 1) := by decide +kernel
theorem dX3_isOf_0 : decode cX3_isOf 0 = .ok (.aload_n 0, 1) := by decide +kernel
theorem dX3_isOf_1 : decode cX3_isOf 1 = .ok (.iload_n 1, 1) := by decide +kernel
theorem dX3_isOf_2 : decode cX3_isOf 2 = .ok (.invokevirtual 37, 3) := by decide +kernel
theorem dX3_isOf_5 : decode cX3_isOf 5 = .ok (.istore_n 3, 1) := by decide +kernel
theorem dX3_isOf_6 : decode cX3_isOf 6 = .ok (.iconst 0, 1) := by decide +kernel
theorem dX3_isOf_7 : decode cX3_isOf 7 = .ok (.istore 4, 2) := by decide +kernel
theorem dX3_isOf_9 : decode cX3_isOf 9 = .ok (.iload 4, 2) := by decide +kernel
theorem dX3_isOf_11 : decode cX3_isOf 11 = .ok (.iconst 3, 1) := by decide +kernel
theorem dX3_isOf_12 : decode cX3_isOf 12 = .ok (.if_icmp .ge 34, 3) := by decide +kernel
theorem dX3_isOf_15 : decode cX3_isOf 15 = .ok (.iload_n 3, 1) := by decide +kernel
theorem dX3_isOf_16 : decode cX3_isOf 16 = .ok (.ifCond .lt 30, 3) := by decide +kernel
theorem dX3_isOf_19 : decode cX3_isOf 19 = .ok (.iload_n 3, 1) := by decide +kernel
theorem dX3_isOf_20 : decode cX3_isOf 20 = .ok (.getstatic 41, 3) := by decide +kernel
theorem dX3_isOf_23 : decode cX3_isOf 23 = .ok (.arraylength, 1) := by decide +kernel
theorem dX3_isOf_24 : decode cX3_isOf 24 = .ok (.if_icmp .ge 22, 3) := by decide +kernel
theorem dX3_isOf_27 : decode cX3_isOf 27 = .ok (.iload_n 3, 1) := by decide +kernel
theorem dX3_isOf_28 : decode cX3_isOf 28 = .ok (.iload_n 2, 1) := by decide +kernel
theorem dX3_isOf_29 : decode cX3_isOf 29 = .ok (.if_icmp .ne 5, 3) := by decide +kernel
theorem dX3_isOf_32 : decode cX3_isOf 32 = .ok (.iconst 1, 1) := by decide +kernel
theorem dX3_isOf_33 : decode cX3_isOf 33 = .ok (.ireturn, 1) := by decide +kernel
theorem dX3_isOf_34 : decode cX3_isOf 34 = .ok (.getstatic 41, 3) := by decide +kernel
theorem dX3_isOf_37 : decode cX3_isOf 37 = .ok (.iload_n 3, 1) := by decide +kernel
theorem dX3_isOf_38 : decode cX3_isOf 38 = .ok (.iaload, 1) := by decide +kernel
theorem dX3_isOf_39 : decode cX3_isOf 39 = .ok (.istore_n 3, 1) := by decide +kernel
theorem dX3_isOf_40 : decode cX3_isOf 40 = .ok (.iinc 4 1, 3) := by decide +kernel
theorem dX3_isOf_43 : decode cX3_isOf 43 = .ok (.goto (-34), 3) := by decide +kernel
theorem dX3_isOf_46 : decode cX3_isOf 46 = .ok (.iconst 0, 1) := by decide +kernel
theorem dX3_isOf_47 : decode cX3_isOf 47 = .ok (.ireturn, 1) := by decide +kernel
theorem dX3_noteOf_0 : decode cX3_noteOf 0 = .ok (.aload_n 0, 1) := by decide +kernel
theorem dX3_noteOf_1 : decode cX3_noteOf 1 = .ok (.iload_n 1, 1) := by decide +kernel
theorem dX3_noteOf_2 : decode cX3_noteOf 2 = .ok (.invokevirtual 44, 3) := by decide +kernel
theorem dX3_noteOf_5 : decode cX3_noteOf 5 = .ok (.ifCond .eq 24, 3) := by decide +kernel
theorem dX3_noteOf_8 : decode cX3_noteOf 8 = .ok (.aload_n 0, 1) := by decide +kernel
theorem dX3_noteOf_9 : decode cX3_noteOf 9 = .ok (.iload_n 2, 1) := by decide +kernel
theorem dX3_noteOf_10 : decode cX3_noteOf 10 = .ok (.invokevirtual 48, 3) := by decide +kernel
theorem dX3_noteOf_13 : decode cX3_noteOf 13 = .ok (.ifCond .eq 16, 3) := by decide +kernel
theorem dX3_noteOf_16 : decode cX3_noteOf 16 = .ok (.aload_n 0, 1) := by decide +kernel
theorem dX3_noteOf_17 : decode cX3_noteOf 17 = .ok (.getfield 15, 3) := by decide +kernel
theorem dX3_noteOf_20 : decode cX3_noteOf 20 = .ok (.iload_n 2, 1) := by decide +kernel
theorem dX3_noteOf_21 : decode cX3_noteOf 21 = .ok (.iconst 4, 1) := by decide +kernel
theorem dX3_noteOf_22 : decode cX3_noteOf 22 = .ok (.imul, 1) := by decide +kernel
theorem dX3_noteOf_23 : decode cX3_noteOf 23 = .ok (.iload_n 1, 1) := by decide +kernel
theorem dX3_noteOf_24 : decode cX3_noteOf 24 = .ok (.iadd, 1) := by decide +kernel
theorem dX3_noteOf_25 : decode cX3_noteOf 25 = .ok (.iaload, 1) := by decide +kernel
theorem dX3_noteOf_26 : decode cX3_noteOf 26 = .ok (.goto 5, 3) := by decide +kernel
theorem dX3_noteOf_29 : decode cX3_noteOf 29 = .ok (.bipush 8, 2) := by decide +kernel
theorem dX3_noteOf_31 : decode cX3_noteOf 31 = .ok (.ireturn, 1) := by decide +kernel
theorem dX3_soundOf_0 : decode cX3_soundOf 0 = .ok (.iload_n 1, 1) := by decide +kernel
theorem dX3_soundOf_1 : decode cX3_soundOf 1 = .ok (.ifCond .lt 23, 3) := by decide +kernel
theorem dX3_soundOf_4 : decode cX3_soundOf 4 = .ok (.iload_n 1, 1) := by decide +kernel
theorem dX3_soundOf_5 : decode cX3_soundOf 5 = .ok (.aload_n 0, 1) := by decide +kernel
theorem dX3_soundOf_6 : decode cX3_soundOf 6 = .ok (.getfield 24, 3) := by decide +kernel
theorem dX3_soundOf_9 : decode cX3_soundOf 9 = .ok (.if_icmp .ge 15, 3) := by decide +kernel
theorem dX3_soundOf_12 : decode cX3_soundOf 12 = .ok (.iload_n 2, 1) := by decide +kernel
theorem dX3_soundOf_13 : decode cX3_soundOf 13 = .ok (.ifCond .lt 11, 3) := by decide +kernel
theorem dX3_soundOf_16 : decode cX3_soundOf 16 = .ok (.iload_n 2, 1) := by decide +kernel
theorem dX3_soundOf_17 : decode cX3_soundOf 17 = .ok (.aload_n 0, 1) := by decide +kernel
theorem dX3_soundOf_18 : decode cX3_soundOf 18 = .ok (.getfield 28, 3) := by decide +kernel
theorem dX3_soundOf_21 : decode cX3_soundOf 21 = .ok (.if_icmp .lt 5, 3) := by decide +kernel
theorem dX3_soundOf_24 : decode cX3_soundOf 24 = .ok (.iconst (-1), 1) := by decide +kernel
theorem dX3_soundOf_25 : decode cX3_soundOf 25 = .ok (.ireturn, 1) := by decide +kernel
theorem dX3_soundOf_26 : decode cX3_soundOf 26 = .ok (.aload_n 0, 1) := by decide +kernel
theorem dX3_soundOf_27 : decode cX3_soundOf 27 = .ok (.getfield 15, 3) := by decide +kernel
theorem dX3_soundOf_30 : decode cX3_soundOf 30 = .ok (.iload_n 2, 1) := by decide +kernel
theorem dX3_soundOf_31 : decode cX3_soundOf 31 = .ok (.iconst 4, 1) := by decide +kernel
theorem dX3_soundOf_32 : decode cX3_soundOf 32 = .ok (.imul, 1) := by decide +kernel
theorem dX3_soundOf_33 : decode cX3_soundOf 33 = .ok (.iload_n 1, 1) := by decide +kernel
theorem dX3_soundOf_34 : decode cX3_soundOf 34 = .ok (.iadd, 1) := by decide +kernel
theorem dX3_soundOf_35 : decode cX3_soundOf 35 = .ok (.iaload, 1) := by decide +kernel
theorem dX3_soundOf_36 : decode cX3_soundOf 36 = .ok (.istore_n 3, 1) := by decide +kernel
theorem dX3_soundOf_37 : decode cX3_soundOf 37 = .ok (.iload_n 3, 1) := by decide +kernel
theorem dX3_soundOf_38 : decode cX3_soundOf 38 = .ok (.bipush 8, 2) := by decide +kernel
theorem dX3_soundOf_40 : decode cX3_soundOf 40 = .ok (.if_icmp .lt 7, 3) := by decide +kernel
theorem dX3_soundOf_43 : decode cX3_soundOf 43 = .ok (.iconst (-1), 1) := by decide +kernel
theorem dX3_soundOf_44 : decode cX3_soundOf 44 = .ok (.goto 4, 3) := by decide +kernel
theorem dX3_soundOf_47 : decode cX3_soundOf 47 = .ok (.iload_n 3, 1) := by decide +kernel
theorem dX3_soundOf_48 : decode cX3_soundOf 48 = .ok (.ireturn, 1) := by decide +kernel
theorem dX3_heardOn_0 : decode cX3_heardOn 0 = .ok (.aload_n 0, 1) := by decide +kernel
theorem dX3_heardOn_1 : decode cX3_heardOn 1 = .ok (.iload_n 1, 1) := by decide +kernel
theorem dX3_heardOn_2 : decode cX3_heardOn 2 = .ok (.aload_n 0, 1) := by decide +kernel
theorem dX3_heardOn_3 : decode cX3_heardOn 3 = .ok (.iload_n 1, 1) := by decide +kernel
theorem dX3_heardOn_4 : decode cX3_heardOn 4 = .ok (.invokevirtual 37, 3) := by decide +kernel
theorem dX3_heardOn_7 : decode cX3_heardOn 7 = .ok (.aload_n 2, 1) := by decide +kernel
theorem dX3_heardOn_8 : decode cX3_heardOn 8 = .ok (.invokevirtual 51, 3) := by decide +kernel
theorem dX3_heardOn_11 : decode cX3_heardOn 11 = .ok (.ireturn, 1) := by decide +kernel
theorem dX3_heardPlainly_0 : decode cX3_heardPlainly 0 = .ok (.aload_n 0, 1) := by decide +kernel
theorem dX3_heardPlainly_1 : decode cX3_heardPlainly 1 = .ok (.iload_n 1, 1) := by decide +kernel
theorem dX3_heardPlainly_2 : decode cX3_heardPlainly 2 = .ok (.getstatic 55, 3) := by decide +kernel
theorem dX3_heardPlainly_5 : decode cX3_heardPlainly 5 = .ok (.invokevirtual 58, 3) := by decide +kernel
theorem dX3_heardPlainly_8 : decode cX3_heardPlainly 8 = .ok (.ireturn, 1) := by decide +kernel
theorem dX3_clashes_0 : decode cX3_clashes 0 = .ok (.iload_n 2, 1) := by decide +kernel
theorem dX3_clashes_1 : decode cX3_clashes 1 = .ok (.iconst 2, 1) := by decide +kernel
theorem dX3_clashes_2 : decode cX3_clashes 2 = .ok (.if_icmp .eq 17, 3) := by decide +kernel
theorem dX3_clashes_5 : decode cX3_clashes 5 = .ok (.iload_n 2, 1) := by decide +kernel
theorem dX3_clashes_6 : decode cX3_clashes 6 = .ok (.iconst 4, 1) := by decide +kernel
theorem dX3_clashes_7 : decode cX3_clashes 7 = .ok (.if_icmp .eq 12, 3) := by decide +kernel
theorem dX3_clashes_10 : decode cX3_clashes 10 = .ok (.aload_n 3, 1) := by decide +kernel
theorem dX3_clashes_11 : decode cX3_clashes 11 = .ok (.arraylength, 1) := by decide +kernel
theorem dX3_clashes_12 : decode cX3_clashes 12 = .ok (.aload_n 0, 1) := by decide +kernel
theorem dX3_clashes_13 : decode cX3_clashes 13 = .ok (.getfield 24, 3) := by decide +kernel
theorem dX3_clashes_16 : decode cX3_clashes 16 = .ok (.if_icmp .ge 5, 3) := by decide +kernel
theorem dX3_clashes_19 : decode cX3_clashes 19 = .ok (.iconst 0, 1) := by decide +kernel
theorem dX3_clashes_20 : decode cX3_clashes 20 = .ok (.ireturn, 1) := by decide +kernel
theorem dX3_clashes_21 : decode cX3_clashes 21 = .ok (.iconst 0, 1) := by decide +kernel
theorem dX3_clashes_22 : decode cX3_clashes 22 = .ok (.istore 4, 2) := by decide +kernel
theorem dX3_clashes_24 : decode cX3_clashes 24 = .ok (.iconst 0, 1) := by decide +kernel
theorem dX3_clashes_25 : decode cX3_clashes 25 = .ok (.istore 5, 2) := by decide +kernel
theorem dX3_clashes_27 : decode cX3_clashes 27 = .ok (.iconst 0, 1) := by decide +kernel
theorem dX3_clashes_28 : decode cX3_clashes 28 = .ok (.istore 6, 2) := by decide +kernel
theorem dX3_clashes_30 : decode cX3_clashes 30 = .ok (.iload 6, 2) := by decide +kernel
theorem dX3_clashes_32 : decode cX3_clashes 32 = .ok (.aload_n 0, 1) := by decide +kernel
theorem dX3_clashes_33 : decode cX3_clashes 33 = .ok (.getfield 24, 3) := by decide +kernel
theorem dX3_clashes_36 : decode cX3_clashes 36 = .ok (.if_icmp .ge 77, 3) := by decide +kernel
theorem dX3_clashes_39 : decode cX3_clashes 39 = .ok (.aload_n 0, 1) := by decide +kernel
theorem dX3_clashes_40 : decode cX3_clashes 40 = .ok (.iload 6, 2) := by decide +kernel
theorem dX3_clashes_42 : decode cX3_clashes 42 = .ok (.iload_n 1, 1) := by decide +kernel
theorem dX3_clashes_43 : decode cX3_clashes 43 = .ok (.aload_n 3, 1) := by decide +kernel
theorem dX3_clashes_44 : decode cX3_clashes 44 = .ok (.iload 6, 2) := by decide +kernel
theorem dX3_clashes_46 : decode cX3_clashes 46 = .ok (.iaload, 1) := by decide +kernel
theorem dX3_clashes_47 : decode cX3_clashes 47 = .ok (.iadd, 1) := by decide +kernel
theorem dX3_clashes_48 : decode cX3_clashes 48 = .ok (.invokevirtual 62, 3) := by decide +kernel
theorem dX3_clashes_51 : decode cX3_clashes 51 = .ok (.istore 7, 2) := by decide +kernel
theorem dX3_clashes_53 : decode cX3_clashes 53 = .ok (.iload 6, 2) := by decide +kernel
theorem dX3_clashes_55 : decode cX3_clashes 55 = .ok (.iconst 1, 1) := by decide +kernel
theorem dX3_clashes_56 : decode cX3_clashes 56 = .ok (.iadd, 1) := by decide +kernel
theorem dX3_clashes_57 : decode cX3_clashes 57 = .ok (.istore 8, 2) := by decide +kernel
theorem dX3_clashes_59 : decode cX3_clashes 59 = .ok (.iload 8, 2) := by decide +kernel
theorem dX3_clashes_61 : decode cX3_clashes 61 = .ok (.aload_n 0, 1) := by decide +kernel
theorem dX3_clashes_62 : decode cX3_clashes 62 = .ok (.getfield 24, 3) := by decide +kernel
theorem dX3_clashes_65 : decode cX3_clashes 65 = .ok (.if_icmp .ge 42, 3) := by decide +kernel
theorem dX3_clashes_68 : decode cX3_clashes 68 = .ok (.iload_n 2, 1) := by decide +kernel
theorem dX3_clashes_69 : decode cX3_clashes 69 = .ok (.iload 7, 2) := by decide +kernel
theorem dX3_clashes_71 : decode cX3_clashes 71 = .ok (.aload_n 0, 1) := by decide +kernel
theorem dX3_clashes_72 : decode cX3_clashes 72 = .ok (.iload 8, 2) := by decide +kernel
theorem dX3_clashes_74 : decode cX3_clashes 74 = .ok (.iload_n 1, 1) := by decide +kernel
theorem dX3_clashes_75 : decode cX3_clashes 75 = .ok (.aload_n 3, 1) := by decide +kernel
theorem dX3_clashes_76 : decode cX3_clashes 76 = .ok (.iload 8, 2) := by decide +kernel
theorem dX3_clashes_78 : decode cX3_clashes 78 = .ok (.iaload, 1) := by decide +kernel
theorem dX3_clashes_79 : decode cX3_clashes 79 = .ok (.iadd, 1) := by decide +kernel
theorem dX3_clashes_80 : decode cX3_clashes 80 = .ok (.invokevirtual 62, 3) := by decide +kernel
theorem dX3_clashes_83 : decode cX3_clashes 83 = .ok (.invokestatic 66, 3) := by decide +kernel
theorem dX3_clashes_86 : decode cX3_clashes 86 = .ok (.ifCond .eq 12, 3) := by decide +kernel
theorem dX3_clashes_89 : decode cX3_clashes 89 = .ok (.iload 4, 2) := by decide +kernel
theorem dX3_clashes_91 : decode cX3_clashes 91 = .ok (.iconst 1, 1) := by decide +kernel
theorem dX3_clashes_92 : decode cX3_clashes 92 = .ok (.iload 5, 2) := by decide +kernel
theorem dX3_clashes_94 : decode cX3_clashes 94 = .ok (.ishl, 1) := by decide +kernel
theorem dX3_clashes_95 : decode cX3_clashes 95 = .ok (.ior, 1) := by decide +kernel
theorem dX3_clashes_96 : decode cX3_clashes 96 = .ok (.istore 4, 2) := by decide +kernel
theorem dX3_clashes_98 : decode cX3_clashes 98 = .ok (.iinc 5 1, 3) := by decide +kernel
theorem dX3_clashes_101 : decode cX3_clashes 101 = .ok (.iinc 8 1, 3) := by decide +kernel
theorem dX3_clashes_104 : decode cX3_clashes 104 = .ok (.goto (-45), 3) := by decide +kernel
theorem dX3_clashes_107 : decode cX3_clashes 107 = .ok (.iinc 6 1, 3) := by decide +kernel
theorem dX3_clashes_110 : decode cX3_clashes 110 = .ok (.goto (-80), 3) := by decide +kernel
theorem dX3_clashes_113 : decode cX3_clashes 113 = .ok (.iload 4, 2) := by decide +kernel
theorem dX3_clashes_115 : decode cX3_clashes 115 = .ok (.ireturn, 1) := by decide +kernel
theorem dX3_clash_0 : decode cX3_clash 0 = .ok (.iload_n 1, 1) := by decide +kernel
theorem dX3_clash_1 : decode cX3_clash 1 = .ok (.iconst (-1), 1) := by decide +kernel
theorem dX3_clash_2 : decode cX3_clash 2 = .ok (.if_icmp .eq 8, 3) := by decide +kernel
theorem dX3_clash_5 : decode cX3_clash 5 = .ok (.iload_n 2, 1) := by decide +kernel
theorem dX3_clash_6 : decode cX3_clash 6 = .ok (.iconst (-1), 1) := by decide +kernel
theorem dX3_clash_7 : decode cX3_clash 7 = .ok (.if_icmp .ne 5, 3) := by decide +kernel
theorem dX3_clash_10 : decode cX3_clash 10 = .ok (.iconst 0, 1) := by decide +kernel
theorem dX3_clash_11 : decode cX3_clash 11 = .ok (.ireturn, 1) := by decide +kernel
theorem dX3_clash_12 : decode cX3_clash 12 = .ok (.iload_n 1, 1) := by decide +kernel
theorem dX3_clash_13 : decode cX3_clash 13 = .ok (.iload_n 2, 1) := by decide +kernel
theorem dX3_clash_14 : decode cX3_clash 14 = .ok (.if_icmp .ge 9, 3) := by decide +kernel
theorem dX3_clash_17 : decode cX3_clash 17 = .ok (.iload_n 2, 1) := by decide +kernel
theorem dX3_clash_18 : decode cX3_clash 18 = .ok (.iload_n 1, 1) := by decide +kernel
theorem dX3_clash_19 : decode cX3_clash 19 = .ok (.isub, 1) := by decide +kernel
theorem dX3_clash_20 : decode cX3_clash 20 = .ok (.goto 6, 3) := by decide +kernel
theorem dX3_clash_23 : decode cX3_clash 23 = .ok (.iload_n 1, 1) := by decide +kernel
theorem dX3_clash_24 : decode cX3_clash 24 = .ok (.iload_n 2, 1) := by decide +kernel
theorem dX3_clash_25 : decode cX3_clash 25 = .ok (.isub, 1) := by decide +kernel
theorem dX3_clash_26 : decode cX3_clash 26 = .ok (.istore_n 3, 1) := by decide +kernel
theorem dX3_clash_27 : decode cX3_clash 27 = .ok (.iload_n 0, 1) := by decide +kernel
theorem dX3_clash_28 : decode cX3_clash 28 = .ok (.tableswitch 78 0 5 #[40, 57, 78, 57, 78, 67], 40) := by decide +kernel
theorem dX3_clash_68 : decode cX3_clash 68 = .ok (.iload_n 3, 1) := by decide +kernel
theorem dX3_clash_69 : decode cX3_clash 69 = .ok (.iconst 1, 1) := by decide +kernel
theorem dX3_clash_70 : decode cX3_clash 70 = .ok (.if_icmp .eq 9, 3) := by decide +kernel
theorem dX3_clash_73 : decode cX3_clash 73 = .ok (.iload_n 3, 1) := by decide +kernel
theorem dX3_clash_74 : decode cX3_clash 74 = .ok (.bipush 6, 2) := by decide +kernel
theorem dX3_clash_76 : decode cX3_clash 76 = .ok (.if_icmp .ne 7, 3) := by decide +kernel
theorem dX3_clash_79 : decode cX3_clash 79 = .ok (.iconst 1, 1) := by decide +kernel
theorem dX3_clash_80 : decode cX3_clash 80 = .ok (.goto 4, 3) := by decide +kernel
theorem dX3_clash_83 : decode cX3_clash 83 = .ok (.iconst 0, 1) := by decide +kernel
theorem dX3_clash_84 : decode cX3_clash 84 = .ok (.ireturn, 1) := by decide +kernel
theorem dX3_clash_85 : decode cX3_clash 85 = .ok (.iload_n 3, 1) := by decide +kernel
theorem dX3_clash_86 : decode cX3_clash 86 = .ok (.ifCond .eq 7, 3) := by decide +kernel
theorem dX3_clash_89 : decode cX3_clash 89 = .ok (.iconst 1, 1) := by decide +kernel
theorem dX3_clash_90 : decode cX3_clash 90 = .ok (.goto 4, 3) := by decide +kernel
theorem dX3_clash_93 : decode cX3_clash 93 = .ok (.iconst 0, 1) := by decide +kernel
theorem dX3_clash_94 : decode cX3_clash 94 = .ok (.ireturn, 1) := by decide +kernel
theorem dX3_clash_95 : decode cX3_clash 95 = .ok (.iload_n 3, 1) := by decide +kernel
theorem dX3_clash_96 : decode cX3_clash 96 = .ok (.iconst 1, 1) := by decide +kernel
theorem dX3_clash_97 : decode cX3_clash 97 = .ok (.if_icmp .ne 7, 3) := by decide +kernel
theorem dX3_clash_100 : decode cX3_clash 100 = .ok (.iconst 1, 1) := by decide +kernel
theorem dX3_clash_101 : decode cX3_clash 101 = .ok (.goto 4, 3) := by decide +kernel
theorem dX3_clash_104 : decode cX3_clash 104 = .ok (.iconst 0, 1) := by decide +kernel
theorem dX3_clash_105 : decode cX3_clash 105 = .ok (.ireturn, 1) := by decide +kernel
theorem dX3_clash_106 : decode cX3_clash 106 = .ok (.iconst 0, 1) := by decide +kernel
theorem dX3_clash_107 : decode cX3_clash 107 = .ok (.ireturn, 1) := by decide +kernel
theorem dX3_tellOf_0 : decode cX3_tellOf 0 = .ok (.iload_n 2, 1) := by decide +kernel
theorem dX3_tellOf_1 : decode cX3_tellOf 1 = .ok (.lookupswitch 39 #[(0, 27), (1, 33)], 27) := by decide +kernel
theorem dX3_tellOf_28 : decode cX3_tellOf 28 = .ok (.aload_n 0, 1) := by decide +kernel
theorem dX3_tellOf_29 : decode cX3_tellOf 29 = .ok (.iload_n 1, 1) := by decide +kernel
theorem dX3_tellOf_30 : decode cX3_tellOf 30 = .ok (.invokevirtual 37, 3) := by decide +kernel
theorem dX3_tellOf_33 : decode cX3_tellOf 33 = .ok (.ireturn, 1) := by decide +kernel
theorem dX3_tellOf_34 : decode cX3_tellOf 34 = .ok (.aload_n 0, 1) := by decide +kernel
theorem dX3_tellOf_35 : decode cX3_tellOf 35 = .ok (.iload_n 1, 1) := by decide +kernel
theorem dX3_tellOf_36 : decode cX3_tellOf 36 = .ok (.invokevirtual 70, 3) := by decide +kernel
theorem dX3_tellOf_39 : decode cX3_tellOf 39 = .ok (.ireturn, 1) := by decide +kernel
theorem dX3_tellOf_40 : decode cX3_tellOf 40 = .ok (.aload_n 0, 1) := by decide +kernel
theorem dX3_tellOf_41 : decode cX3_tellOf 41 = .ok (.iload_n 1, 1) := by decide +kernel
theorem dX3_tellOf_42 : decode cX3_tellOf 42 = .ok (.invokevirtual 73, 3) := by decide +kernel
theorem dX3_tellOf_45 : decode cX3_tellOf 45 = .ok (.ireturn, 1) := by decide +kernel
theorem dX3_countSounding_0 : decode cX3_countSounding 0 = .ok (.iconst 0, 1) := by decide +kernel
theorem dX3_countSounding_1 : decode cX3_countSounding 1 = .ok (.istore_n 2, 1) := by decide +kernel
theorem dX3_countSounding_2 : decode cX3_countSounding 2 = .ok (.iconst 0, 1) := by decide +kernel
theorem dX3_countSounding_3 : decode cX3_countSounding 3 = .ok (.istore_n 3, 1) := by decide +kernel
theorem dX3_countSounding_4 : decode cX3_countSounding 4 = .ok (.iload_n 3, 1) := by decide +kernel
theorem dX3_countSounding_5 : decode cX3_countSounding 5 = .ok (.aload_n 0, 1) := by decide +kernel
theorem dX3_countSounding_6 : decode cX3_countSounding 6 = .ok (.getfield 24, 3) := by decide +kernel
theorem dX3_countSounding_9 : decode cX3_countSounding 9 = .ok (.if_icmp .ge 22, 3) := by decide +kernel
theorem dX3_countSounding_12 : decode cX3_countSounding 12 = .ok (.aload_n 0, 1) := by decide +kernel
theorem dX3_countSounding_13 : decode cX3_countSounding 13 = .ok (.iload_n 3, 1) := by decide +kernel
theorem dX3_countSounding_14 : decode cX3_countSounding 14 = .ok (.iload_n 1, 1) := by decide +kernel
theorem dX3_countSounding_15 : decode cX3_countSounding 15 = .ok (.invokevirtual 62, 3) := by decide +kernel
theorem dX3_countSounding_18 : decode cX3_countSounding 18 = .ok (.iconst (-1), 1) := by decide +kernel
theorem dX3_countSounding_19 : decode cX3_countSounding 19 = .ok (.if_icmp .eq 6, 3) := by decide +kernel
theorem dX3_countSounding_22 : decode cX3_countSounding 22 = .ok (.iinc 2 1, 3) := by decide +kernel
theorem dX3_countSounding_25 : decode cX3_countSounding 25 = .ok (.iinc 3 1, 3) := by decide +kernel
theorem dX3_countSounding_28 : decode cX3_countSounding 28 = .ok (.goto (-24), 3) := by decide +kernel
theorem dX3_countSounding_31 : decode cX3_countSounding 31 = .ok (.iload_n 2, 1) := by decide +kernel
theorem dX3_countSounding_32 : decode cX3_countSounding 32 = .ok (.ireturn, 1) := by decide +kernel
theorem dX3_markOf_0 : decode cX3_markOf 0 = .ok (.iload_n 2, 1) := by decide +kernel
theorem dX3_markOf_1 : decode cX3_markOf 1 = .ok (.tableswitch 67 1 4 #[31, 45, 54, 61], 31) := by decide +kernel
theorem dX3_markOf_32 : decode cX3_markOf 32 = .ok (.aload_n 0, 1) := by decide +kernel
theorem dX3_markOf_33 : decode cX3_markOf 33 = .ok (.iload_n 1, 1) := by decide +kernel
theorem dX3_markOf_34 : decode cX3_markOf 34 = .ok (.invokevirtual 76, 3) := by decide +kernel
theorem dX3_markOf_37 : decode cX3_markOf 37 = .ok (.ifCond .eq 7, 3) := by decide +kernel
theorem dX3_markOf_40 : decode cX3_markOf 40 = .ok (.iconst 1, 1) := by decide +kernel
theorem dX3_markOf_41 : decode cX3_markOf 41 = .ok (.goto 4, 3) := by decide +kernel
theorem dX3_markOf_44 : decode cX3_markOf 44 = .ok (.iconst 0, 1) := by decide +kernel
theorem dX3_markOf_45 : decode cX3_markOf 45 = .ok (.ireturn, 1) := by decide +kernel
theorem dX3_markOf_46 : decode cX3_markOf 46 = .ok (.iload_n 1, 1) := by decide +kernel
theorem dX3_markOf_47 : decode cX3_markOf 47 = .ok (.aload_n 0, 1) := by decide +kernel
theorem dX3_markOf_48 : decode cX3_markOf 48 = .ok (.iload_n 1, 1) := by decide +kernel
theorem dX3_markOf_49 : decode cX3_markOf 49 = .ok (.iconst 2, 1) := by decide +kernel
theorem dX3_markOf_50 : decode cX3_markOf 50 = .ok (.invokevirtual 79, 3) := by decide +kernel
theorem dX3_markOf_53 : decode cX3_markOf 53 = .ok (.isub, 1) := by decide +kernel
theorem dX3_markOf_54 : decode cX3_markOf 54 = .ok (.ireturn, 1) := by decide +kernel
theorem dX3_markOf_55 : decode cX3_markOf 55 = .ok (.aload_n 0, 1) := by decide +kernel
theorem dX3_markOf_56 : decode cX3_markOf 56 = .ok (.iload_n 1, 1) := by decide +kernel
theorem dX3_markOf_57 : decode cX3_markOf 57 = .ok (.iconst 3, 1) := by decide +kernel
theorem dX3_markOf_58 : decode cX3_markOf 58 = .ok (.invokevirtual 79, 3) := by decide +kernel
theorem dX3_markOf_61 : decode cX3_markOf 61 = .ok (.ireturn, 1) := by decide +kernel
theorem dX3_markOf_62 : decode cX3_markOf 62 = .ok (.aload_n 0, 1) := by decide +kernel
theorem dX3_markOf_63 : decode cX3_markOf 63 = .ok (.iload_n 1, 1) := by decide +kernel
theorem dX3_markOf_64 : decode cX3_markOf 64 = .ok (.invokevirtual 82, 3) := by decide +kernel
theorem dX3_markOf_67 : decode cX3_markOf 67 = .ok (.ireturn, 1) := by decide +kernel
theorem dX3_markOf_68 : decode cX3_markOf 68 = .ok (.aload_n 0, 1) := by decide +kernel
theorem dX3_markOf_69 : decode cX3_markOf 69 = .ok (.iload_n 1, 1) := by decide +kernel
theorem dX3_markOf_70 : decode cX3_markOf 70 = .ok (.iconst 0, 1) := by decide +kernel
theorem dX3_markOf_71 : decode cX3_markOf 71 = .ok (.getstatic 55, 3) := by decide +kernel
theorem dX3_markOf_74 : decode cX3_markOf 74 = .ok (.invokevirtual 51, 3) := by decide +kernel
theorem dX3_markOf_77 : decode cX3_markOf 77 = .ok (.invokestatic 85, 3) := by decide +kernel
theorem dX3_markOf_80 : decode cX3_markOf 80 = .ok (.ireturn, 1) := by decide +kernel
theorem dX3_isOneNote_0 : decode cX3_isOneNote 0 = .ok (.iconst (-1), 1) := by decide +kernel
theorem dX3_isOneNote_1 : decode cX3_isOneNote 1 = .ok (.istore_n 2, 1) := by decide +kernel
theorem dX3_isOneNote_2 : decode cX3_isOneNote 2 = .ok (.iconst 0, 1) := by decide +kernel
theorem dX3_isOneNote_3 : decode cX3_isOneNote 3 = .ok (.istore_n 3, 1) := by decide +kernel
theorem dX3_isOneNote_4 : decode cX3_isOneNote 4 = .ok (.iload_n 3, 1) := by decide +kernel
theorem dX3_isOneNote_5 : decode cX3_isOneNote 5 = .ok (.aload_n 0, 1) := by decide +kernel
theorem dX3_isOneNote_6 : decode cX3_isOneNote 6 = .ok (.getfield 24, 3) := by decide +kernel
theorem dX3_isOneNote_9 : decode cX3_isOneNote 9 = .ok (.if_icmp .ge 45, 3) := by decide +kernel
theorem dX3_isOneNote_12 : decode cX3_isOneNote 12 = .ok (.aload_n 0, 1) := by decide +kernel
theorem dX3_isOneNote_13 : decode cX3_isOneNote 13 = .ok (.iload_n 3, 1) := by decide +kernel
theorem dX3_isOneNote_14 : decode cX3_isOneNote 14 = .ok (.iload_n 1, 1) := by decide +kernel
theorem dX3_isOneNote_15 : decode cX3_isOneNote 15 = .ok (.invokevirtual 62, 3) := by decide +kernel
theorem dX3_isOneNote_18 : decode cX3_isOneNote 18 = .ok (.istore 4, 2) := by decide +kernel
theorem dX3_isOneNote_20 : decode cX3_isOneNote 20 = .ok (.iload 4, 2) := by decide +kernel
theorem dX3_isOneNote_22 : decode cX3_isOneNote 22 = .ok (.iconst (-1), 1) := by decide +kernel
theorem dX3_isOneNote_23 : decode cX3_isOneNote 23 = .ok (.if_icmp .eq 16, 3) := by decide +kernel
theorem dX3_isOneNote_26 : decode cX3_isOneNote 26 = .ok (.iload_n 2, 1) := by decide +kernel
theorem dX3_isOneNote_27 : decode cX3_isOneNote 27 = .ok (.iconst (-1), 1) := by decide +kernel
theorem dX3_isOneNote_28 : decode cX3_isOneNote 28 = .ok (.if_icmp .eq 11, 3) := by decide +kernel
theorem dX3_isOneNote_31 : decode cX3_isOneNote 31 = .ok (.iload 4, 2) := by decide +kernel
theorem dX3_isOneNote_33 : decode cX3_isOneNote 33 = .ok (.iload_n 2, 1) := by decide +kernel
theorem dX3_isOneNote_34 : decode cX3_isOneNote 34 = .ok (.if_icmp .eq 5, 3) := by decide +kernel
theorem dX3_isOneNote_37 : decode cX3_isOneNote 37 = .ok (.iconst 0, 1) := by decide +kernel
theorem dX3_isOneNote_38 : decode cX3_isOneNote 38 = .ok (.ireturn, 1) := by decide +kernel
theorem dX3_isOneNote_39 : decode cX3_isOneNote 39 = .ok (.iload 4, 2) := by decide +kernel
theorem dX3_isOneNote_41 : decode cX3_isOneNote 41 = .ok (.iconst (-1), 1) := by decide +kernel
theorem dX3_isOneNote_42 : decode cX3_isOneNote 42 = .ok (.if_icmp .eq 6, 3) := by decide +kernel
theorem dX3_isOneNote_45 : decode cX3_isOneNote 45 = .ok (.iload 4, 2) := by decide +kernel
theorem dX3_isOneNote_47 : decode cX3_isOneNote 47 = .ok (.istore_n 2, 1) := by decide +kernel
theorem dX3_isOneNote_48 : decode cX3_isOneNote 48 = .ok (.iinc 3 1, 3) := by decide +kernel
theorem dX3_isOneNote_51 : decode cX3_isOneNote 51 = .ok (.goto (-47), 3) := by decide +kernel
theorem dX3_isOneNote_54 : decode cX3_isOneNote 54 = .ok (.iconst 1, 1) := by decide +kernel
theorem dX3_isOneNote_55 : decode cX3_isOneNote 55 = .ok (.ireturn, 1) := by decide +kernel
theorem dX3_countTied_0 : decode cX3_countTied 0 = .ok (.iconst 0, 1) := by decide +kernel
theorem dX3_countTied_1 : decode cX3_countTied 1 = .ok (.istore_n 2, 1) := by decide +kernel
theorem dX3_countTied_2 : decode cX3_countTied 2 = .ok (.iconst 0, 1) := by decide +kernel
theorem dX3_countTied_3 : decode cX3_countTied 3 = .ok (.istore_n 3, 1) := by decide +kernel
theorem dX3_countTied_4 : decode cX3_countTied 4 = .ok (.iload_n 3, 1) := by decide +kernel
theorem dX3_countTied_5 : decode cX3_countTied 5 = .ok (.aload_n 0, 1) := by decide +kernel
theorem dX3_countTied_6 : decode cX3_countTied 6 = .ok (.getfield 24, 3) := by decide +kernel
theorem dX3_countTied_9 : decode cX3_countTied 9 = .ok (.if_icmp .ge 39, 3) := by decide +kernel
theorem dX3_countTied_12 : decode cX3_countTied 12 = .ok (.aload_n 0, 1) := by decide +kernel
theorem dX3_countTied_13 : decode cX3_countTied 13 = .ok (.iload_n 3, 1) := by decide +kernel
theorem dX3_countTied_14 : decode cX3_countTied 14 = .ok (.iload_n 1, 1) := by decide +kernel
theorem dX3_countTied_15 : decode cX3_countTied 15 = .ok (.invokevirtual 62, 3) := by decide +kernel
theorem dX3_countTied_18 : decode cX3_countTied 18 = .ok (.istore 4, 2) := by decide +kernel
theorem dX3_countTied_20 : decode cX3_countTied 20 = .ok (.iload 4, 2) := by decide +kernel
theorem dX3_countTied_22 : decode cX3_countTied 22 = .ok (.iconst (-1), 1) := by decide +kernel
theorem dX3_countTied_23 : decode cX3_countTied 23 = .ok (.if_icmp .eq 19, 3) := by decide +kernel
theorem dX3_countTied_26 : decode cX3_countTied 26 = .ok (.iload 4, 2) := by decide +kernel
theorem dX3_countTied_28 : decode cX3_countTied 28 = .ok (.aload_n 0, 1) := by decide +kernel
theorem dX3_countTied_29 : decode cX3_countTied 29 = .ok (.iload_n 3, 1) := by decide +kernel
theorem dX3_countTied_30 : decode cX3_countTied 30 = .ok (.iload_n 1, 1) := by decide +kernel
theorem dX3_countTied_31 : decode cX3_countTied 31 = .ok (.iconst 1, 1) := by decide +kernel
theorem dX3_countTied_32 : decode cX3_countTied 32 = .ok (.isub, 1) := by decide +kernel
theorem dX3_countTied_33 : decode cX3_countTied 33 = .ok (.invokevirtual 62, 3) := by decide +kernel
theorem dX3_countTied_36 : decode cX3_countTied 36 = .ok (.if_icmp .ne 6, 3) := by decide +kernel
theorem dX3_countTied_39 : decode cX3_countTied 39 = .ok (.iinc 2 1, 3) := by decide +kernel
theorem dX3_countTied_42 : decode cX3_countTied 42 = .ok (.iinc 3 1, 3) := by decide +kernel
theorem dX3_countTied_45 : decode cX3_countTied 45 = .ok (.goto (-41), 3) := by decide +kernel
theorem dX3_countTied_48 : decode cX3_countTied 48 = .ok (.iload_n 2, 1) := by decide +kernel
theorem dX3_countTied_49 : decode cX3_countTied 49 = .ok (.ireturn, 1) := by decide +kernel
theorem dX3_countAhead_0 : decode cX3_countAhead 0 = .ok (.iconst 0, 1) := by decide +kernel
theorem dX3_countAhead_1 : decode cX3_countAhead 1 = .ok (.istore_n 3, 1) := by decide +kernel
theorem dX3_countAhead_2 : decode cX3_countAhead 2 = .ok (.iconst 0, 1) := by decide +kernel
theorem dX3_countAhead_3 : decode cX3_countAhead 3 = .ok (.istore 4, 2) := by decide +kernel
theorem dX3_countAhead_5 : decode cX3_countAhead 5 = .ok (.iload 4, 2) := by decide +kernel
theorem dX3_countAhead_7 : decode cX3_countAhead 7 = .ok (.iload_n 1, 1) := by decide +kernel
theorem dX3_countAhead_8 : decode cX3_countAhead 8 = .ok (.if_icmp .ge 31, 3) := by decide +kernel
theorem dX3_countAhead_11 : decode cX3_countAhead 11 = .ok (.iload 4, 2) := by decide +kernel
theorem dX3_countAhead_13 : decode cX3_countAhead 13 = .ok (.aload_n 0, 1) := by decide +kernel
theorem dX3_countAhead_14 : decode cX3_countAhead 14 = .ok (.getfield 28, 3) := by decide +kernel
theorem dX3_countAhead_17 : decode cX3_countAhead 17 = .ok (.if_icmp .ge 22, 3) := by decide +kernel
theorem dX3_countAhead_20 : decode cX3_countAhead 20 = .ok (.aload_n 0, 1) := by decide +kernel
theorem dX3_countAhead_21 : decode cX3_countAhead 21 = .ok (.iload 4, 2) := by decide +kernel
theorem dX3_countAhead_23 : decode cX3_countAhead 23 = .ok (.iload_n 2, 1) := by decide +kernel
theorem dX3_countAhead_24 : decode cX3_countAhead 24 = .ok (.invokevirtual 90, 3) := by decide +kernel
theorem dX3_countAhead_27 : decode cX3_countAhead 27 = .ok (.ifCond .eq 6, 3) := by decide +kernel
theorem dX3_countAhead_30 : decode cX3_countAhead 30 = .ok (.iinc 3 1, 3) := by decide +kernel
theorem dX3_countAhead_33 : decode cX3_countAhead 33 = .ok (.iinc 4 1, 3) := by decide +kernel
theorem dX3_countAhead_36 : decode cX3_countAhead 36 = .ok (.goto (-31), 3) := by decide +kernel
theorem dX3_countAhead_39 : decode cX3_countAhead 39 = .ok (.iload_n 3, 1) := by decide +kernel
theorem dX3_countAhead_40 : decode cX3_countAhead 40 = .ok (.ireturn, 1) := by decide +kernel
theorem dX3_countOf_0 : decode cX3_countOf 0 = .ok (.aload_n 0, 1) := by decide +kernel
theorem dX3_countOf_1 : decode cX3_countOf 1 = .ok (.aload_n 0, 1) := by decide +kernel
theorem dX3_countOf_2 : decode cX3_countOf 2 = .ok (.getfield 28, 3) := by decide +kernel
theorem dX3_countOf_5 : decode cX3_countOf 5 = .ok (.iload_n 1, 1) := by decide +kernel
theorem dX3_countOf_6 : decode cX3_countOf 6 = .ok (.invokevirtual 79, 3) := by decide +kernel
theorem dX3_countOf_9 : decode cX3_countOf 9 = .ok (.ireturn, 1) := by decide +kernel
theorem dX3_placeOfLetter_0 : decode cX3_placeOfLetter 0 = .ok (.iconst 0, 1) := by decide +kernel
theorem dX3_placeOfLetter_1 : decode cX3_placeOfLetter 1 = .ok (.istore_n 2, 1) := by decide +kernel
theorem dX3_placeOfLetter_2 : decode cX3_placeOfLetter 2 = .ok (.iconst 0, 1) := by decide +kernel
theorem dX3_placeOfLetter_3 : decode cX3_placeOfLetter 3 = .ok (.istore_n 3, 1) := by decide +kernel
theorem dX3_placeOfLetter_4 : decode cX3_placeOfLetter 4 = .ok (.iload_n 3, 1) := by decide +kernel
theorem dX3_placeOfLetter_5 : decode cX3_placeOfLetter 5 = .ok (.aload_n 0, 1) := by decide +kernel
theorem dX3_placeOfLetter_6 : decode cX3_placeOfLetter 6 = .ok (.getfield 28, 3) := by decide +kernel
theorem dX3_placeOfLetter_9 : decode cX3_placeOfLetter 9 = .ok (.if_icmp .ge 31, 3) := by decide +kernel
theorem dX3_placeOfLetter_12 : decode cX3_placeOfLetter 12 = .ok (.aload_n 0, 1) := by decide +kernel
theorem dX3_placeOfLetter_13 : decode cX3_placeOfLetter 13 = .ok (.iload_n 3, 1) := by decide +kernel
theorem dX3_placeOfLetter_14 : decode cX3_placeOfLetter 14 = .ok (.iconst 3, 1) := by decide +kernel
theorem dX3_placeOfLetter_15 : decode cX3_placeOfLetter 15 = .ok (.invokevirtual 90, 3) := by decide +kernel
theorem dX3_placeOfLetter_18 : decode cX3_placeOfLetter 18 = .ok (.ifCond .ne 6, 3) := by decide +kernel
theorem dX3_placeOfLetter_21 : decode cX3_placeOfLetter 21 = .ok (.goto 13, 3) := by decide +kernel
theorem dX3_placeOfLetter_24 : decode cX3_placeOfLetter 24 = .ok (.iload_n 2, 1) := by decide +kernel
theorem dX3_placeOfLetter_25 : decode cX3_placeOfLetter 25 = .ok (.iload_n 1, 1) := by decide +kernel
theorem dX3_placeOfLetter_26 : decode cX3_placeOfLetter 26 = .ok (.if_icmp .ne 5, 3) := by decide +kernel
theorem dX3_placeOfLetter_29 : decode cX3_placeOfLetter 29 = .ok (.iload_n 3, 1) := by decide +kernel
theorem dX3_placeOfLetter_30 : decode cX3_placeOfLetter 30 = .ok (.ireturn, 1) := by decide +kernel
theorem dX3_placeOfLetter_31 : decode cX3_placeOfLetter 31 = .ok (.iinc 2 1, 3) := by decide +kernel
theorem dX3_placeOfLetter_34 : decode cX3_placeOfLetter 34 = .ok (.iinc 3 1, 3) := by decide +kernel
theorem dX3_placeOfLetter_37 : decode cX3_placeOfLetter 37 = .ok (.goto (-33), 3) := by decide +kernel
theorem dX3_placeOfLetter_40 : decode cX3_placeOfLetter 40 = .ok (.bipush (-9), 2) := by decide +kernel
theorem dX3_placeOfLetter_42 : decode cX3_placeOfLetter 42 = .ok (.ireturn, 1) := by decide +kernel
theorem dX3_lastLetterTill_0 : decode cX3_lastLetterTill 0 = .ok (.iload_n 1, 1) := by decide +kernel
theorem dX3_lastLetterTill_1 : decode cX3_lastLetterTill 1 = .ok (.istore_n 2, 1) := by decide +kernel
theorem dX3_lastLetterTill_2 : decode cX3_lastLetterTill 2 = .ok (.iload_n 2, 1) := by decide +kernel
theorem dX3_lastLetterTill_3 : decode cX3_lastLetterTill 3 = .ok (.ifCond .le 20, 3) := by decide +kernel
theorem dX3_lastLetterTill_6 : decode cX3_lastLetterTill 6 = .ok (.aload_n 0, 1) := by decide +kernel
theorem dX3_lastLetterTill_7 : decode cX3_lastLetterTill 7 = .ok (.iload_n 2, 1) := by decide +kernel
theorem dX3_lastLetterTill_8 : decode cX3_lastLetterTill 8 = .ok (.iconst 3, 1) := by decide +kernel
theorem dX3_lastLetterTill_9 : decode cX3_lastLetterTill 9 = .ok (.invokevirtual 90, 3) := by decide +kernel
theorem dX3_lastLetterTill_12 : decode cX3_lastLetterTill 12 = .ok (.ifCond .eq 5, 3) := by decide +kernel
theorem dX3_lastLetterTill_15 : decode cX3_lastLetterTill 15 = .ok (.iload_n 2, 1) := by decide +kernel
theorem dX3_lastLetterTill_16 : decode cX3_lastLetterTill 16 = .ok (.ireturn, 1) := by decide +kernel
theorem dX3_lastLetterTill_17 : decode cX3_lastLetterTill 17 = .ok (.iinc 2 (-1), 3) := by decide +kernel
theorem dX3_lastLetterTill_20 : decode cX3_lastLetterTill 20 = .ok (.goto (-18), 3) := by decide +kernel
theorem dX3_lastLetterTill_23 : decode cX3_lastLetterTill 23 = .ok (.iconst 0, 1) := by decide +kernel
theorem dX3_lastLetterTill_24 : decode cX3_lastLetterTill 24 = .ok (.ireturn, 1) := by decide +kernel
theorem dX4_init_0 : decode cX4_init 0 = .ok (.aload_n 0, 1) := by decide +kernel
theorem dX4_init_1 : decode cX4_init 1 = .ok (.invokespecial 3, 3) := by decide +kernel
theorem dX4_init_4 : decode cX4_init 4 = .ok (.aload_n 0, 1) := by decide +kernel
theorem dX4_init_5 : decode cX4_init 5 = .ok (.bipush 14, 2) := by decide +kernel
theorem dX4_init_7 : decode cX4_init 7 = .ok (.newarray .int, 2) := by decide +kernel
theorem dX4_init_9 : decode cX4_init 9 = .ok (.putfield 9, 3) := by decide +kernel
theorem dX4_init_12 : decode cX4_init 12 = .ok (.aload_n 0, 1) := by decide +kernel
theorem dX4_init_13 : decode cX4_init 13 = .ok (.bipush 56, 2) := by decide +kernel
theorem dX4_init_15 : decode cX4_init 15 = .ok (.newarray .int, 2) := by decide +kernel
theorem dX4_init_17 : decode cX4_init 17 = .ok (.putfield 15, 3) := by decide +kernel
theorem dX4_init_20 : decode cX4_init 20 = .ok (.aload_n 0, 1) := by decide +kernel
theorem dX4_init_21 : decode cX4_init 21 = .ok (.aload_n 1, 1) := by decide +kernel
theorem dX4_init_22 : decode cX4_init 22 = .ok (.putfield 18, 3) := by decide +kernel
theorem dX4_init_25 : decode cX4_init 25 = .ok (.return_, 1) := by decide +kernel
theorem dX4_read_0 : decode cX4_read 0 = .ok (.aload_n 0, 1) := by decide +kernel
theorem dX4_read_1 : decode cX4_read 1 = .ok (.iload_n 1, 1) := by decide +kernel
theorem dX4_read_2 : decode cX4_read 2 = .ok (.putfield 22, 3) := by decide +kernel
theorem dX4_read_5 : decode cX4_read 5 = .ok (.aload_n 0, 1) := by decide +kernel
theorem dX4_read_6 : decode cX4_read 6 = .ok (.aload_n 0, 1) := by decide +kernel
theorem dX4_read_7 : decode cX4_read 7 = .ok (.getfield 18, 3) := by decide +kernel
theorem dX4_read_10 : decode cX4_read 10 = .ok (.getfield 26, 3) := by decide +kernel
theorem dX4_read_13 : decode cX4_read 13 = .ok (.iload_n 1, 1) := by decide +kernel
theorem dX4_read_14 : decode cX4_read 14 = .ok (.invokevirtual 32, 3) := by decide +kernel
theorem dX4_read_17 : decode cX4_read 17 = .ok (.putfield 38, 3) := by decide +kernel
theorem dX4_read_20 : decode cX4_read 20 = .ok (.aload_n 0, 1) := by decide +kernel
theorem dX4_read_21 : decode cX4_read 21 = .ok (.iconst 0, 1) := by decide +kernel
theorem dX4_read_22 : decode cX4_read 22 = .ok (.putfield 41, 3) := by decide +kernel
theorem dX4_read_25 : decode cX4_read 25 = .ok (.aload_n 0, 1) := by decide +kernel
theorem dX4_read_26 : decode cX4_read 26 = .ok (.iconst 0, 1) := by decide +kernel
theorem dX4_read_27 : decode cX4_read 27 = .ok (.putfield 44, 3) := by decide +kernel
theorem dX4_read_30 : decode cX4_read 30 = .ok (.aload_n 0, 1) := by decide +kernel
theorem dX4_read_31 : decode cX4_read 31 = .ok (.iconst 0, 1) := by decide +kernel
theorem dX4_read_32 : decode cX4_read 32 = .ok (.putfield 47, 3) := by decide +kernel
theorem dX4_read_35 : decode cX4_read 35 = .ok (.aload_n 0, 1) := by decide +kernel
theorem dX4_read_36 : decode cX4_read 36 = .ok (.invokevirtual 50, 3) := by decide +kernel
theorem dX4_read_39 : decode cX4_read 39 = .ok (.aload_n 0, 1) := by decide +kernel
theorem dX4_read_40 : decode cX4_read 40 = .ok (.bipush 113, 2) := by decide +kernel
theorem dX4_read_42 : decode cX4_read 42 = .ok (.bipush 113, 2) := by decide +kernel
theorem dX4_read_44 : decode cX4_read 44 = .ok (.invokevirtual 53, 3) := by decide +kernel
theorem dX4_read_47 : decode cX4_read 47 = .ok (.ifCond .ne 8, 3) := by decide +kernel
theorem dX4_read_50 : decode cX4_read 50 = .ok (.aload_n 0, 1) := by decide +kernel
theorem dX4_read_51 : decode cX4_read 51 = .ok (.getfield 41, 3) := by decide +kernel
theorem dX4_read_54 : decode cX4_read 54 = .ok (.ireturn, 1) := by decide +kernel
theorem dX4_read_55 : decode cX4_read 55 = .ok (.aload_n 0, 1) := by decide +kernel
theorem dX4_read_56 : decode cX4_read 56 = .ok (.dup, 1) := by decide +kernel
theorem dX4_read_57 : decode cX4_read 57 = .ok (.getfield 41, 3) := by decide +kernel
theorem dX4_read_60 : decode cX4_read 60 = .ok (.iconst 1, 1) := by decide +kernel
theorem dX4_read_61 : decode cX4_read 61 = .ok (.iadd, 1) := by decide +kernel
theorem dX4_read_62 : decode cX4_read 62 = .ok (.putfield 41, 3) := by decide +kernel
theorem dX4_read_65 : decode cX4_read 65 = .ok (.aload_n 0, 1) := by decide +kernel
theorem dX4_read_66 : decode cX4_read 66 = .ok (.bipush 50, 2) := by decide +kernel
theorem dX4_read_68 : decode cX4_read 68 = .ok (.bipush 52, 2) := by decide +kernel
theorem dX4_read_70 : decode cX4_read 70 = .ok (.invokevirtual 53, 3) := by decide +kernel
theorem dX4_read_73 : decode cX4_read 73 = .ok (.ifCond .ne 8, 3) := by decide +kernel
theorem dX4_read_76 : decode cX4_read 76 = .ok (.aload_n 0, 1) := by decide +kernel
theorem dX4_read_77 : decode cX4_read 77 = .ok (.getfield 41, 3) := by decide +kernel
theorem dX4_read_80 : decode cX4_read 80 = .ok (.ireturn, 1) := by decide +kernel
theorem dX4_read_81 : decode cX4_read 81 = .ok (.aload_n 0, 1) := by decide +kernel
theorem dX4_read_82 : decode cX4_read 82 = .ok (.aload_n 0, 1) := by decide +kernel
theorem dX4_read_83 : decode cX4_read 83 = .ok (.invokevirtual 57, 3) := by decide +kernel
theorem dX4_read_86 : decode cX4_read 86 = .ok (.bipush 48, 2) := by decide +kernel
theorem dX4_read_88 : decode cX4_read 88 = .ok (.isub, 1) := by decide +kernel
theorem dX4_read_89 : decode cX4_read 89 = .ok (.putfield 44, 3) := by decide +kernel
theorem dX4_read_92 : decode cX4_read 92 = .ok (.aload_n 0, 1) := by decide +kernel
theorem dX4_read_93 : decode cX4_read 93 = .ok (.dup, 1) := by decide +kernel
theorem dX4_read_94 : decode cX4_read 94 = .ok (.getfield 41, 3) := by decide +kernel
theorem dX4_read_97 : decode cX4_read 97 = .ok (.iconst 1, 1) := by decide +kernel
theorem dX4_read_98 : decode cX4_read 98 = .ok (.iadd, 1) := by decide +kernel
theorem dX4_read_99 : decode cX4_read 99 = .ok (.putfield 41, 3) := by decide +kernel
theorem dX4_read_102 : decode cX4_read 102 = .ok (.aload_n 0, 1) := by decide +kernel
theorem dX4_read_103 : decode cX4_read 103 = .ok (.invokevirtual 50, 3) := by decide +kernel
theorem dX4_read_106 : decode cX4_read 106 = .ok (.iconst 0, 1) := by decide +kernel
theorem dX4_read_107 : decode cX4_read 107 = .ok (.istore_n 2, 1) := by decide +kernel
theorem dX4_read_108 : decode cX4_read 108 = .ok (.iload_n 2, 1) := by decide +kernel
theorem dX4_read_109 : decode cX4_read 109 = .ok (.bipush 14, 2) := by decide +kernel
theorem dX4_read_111 : decode cX4_read 111 = .ok (.if_icmp .gt 36, 3) := by decide +kernel
theorem dX4_read_114 : decode cX4_read 114 = .ok (.aload_n 0, 1) := by decide +kernel
theorem dX4_read_115 : decode cX4_read 115 = .ok (.getfield 41, 3) := by decide +kernel
theorem dX4_read_118 : decode cX4_read 118 = .ok (.aload_n 0, 1) := by decide +kernel
theorem dX4_read_119 : decode cX4_read 119 = .ok (.getfield 38, 3) := by decide +kernel
theorem dX4_read_122 : decode cX4_read 122 = .ok (.if_icmp .ge 25, 3) := by decide +kernel
theorem dX4_read_125 : decode cX4_read 125 = .ok (.aload_n 0, 1) := by decide +kernel
theorem dX4_read_126 : decode cX4_read 126 = .ok (.invokevirtual 61, 3) := by decide +kernel
theorem dX4_read_129 : decode cX4_read 129 = .ok (.ifCond .ne 8, 3) := by decide +kernel
theorem dX4_read_132 : decode cX4_read 132 = .ok (.aload_n 0, 1) := by decide +kernel
theorem dX4_read_133 : decode cX4_read 133 = .ok (.getfield 41, 3) := by decide +kernel
theorem dX4_read_136 : decode cX4_read 136 = .ok (.ireturn, 1) := by decide +kernel
theorem dX4_read_137 : decode cX4_read 137 = .ok (.aload_n 0, 1) := by decide +kernel
theorem dX4_read_138 : decode cX4_read 138 = .ok (.invokevirtual 50, 3) := by decide +kernel
theorem dX4_read_141 : decode cX4_read 141 = .ok (.iinc 2 1, 3) := by decide +kernel
theorem dX4_read_144 : decode cX4_read 144 = .ok (.goto (-36), 3) := by decide +kernel
theorem dX4_read_147 : decode cX4_read 147 = .ok (.aload_n 0, 1) := by decide +kernel
theorem dX4_read_148 : decode cX4_read 148 = .ok (.getfield 47, 3) := by decide +kernel
theorem dX4_read_151 : decode cX4_read 151 = .ok (.ifCond .ne 10, 3) := by decide +kernel
theorem dX4_read_154 : decode cX4_read 154 = .ok (.aload_n 0, 1) := by decide +kernel
theorem dX4_read_155 : decode cX4_read 155 = .ok (.getfield 41, 3) := by decide +kernel
theorem dX4_read_158 : decode cX4_read 158 = .ok (.goto 5, 3) := by decide +kernel
theorem dX4_read_161 : decode cX4_read 161 = .ok (.bipush (-9), 2) := by decide +kernel
theorem dX4_read_163 : decode cX4_read 163 = .ok (.ireturn, 1) := by decide +kernel
theorem dX4_readPlace_0 : decode cX4_readPlace 0 = .ok (.aload_n 0, 1) := by decide +kernel
theorem dX4_readPlace_1 : decode cX4_readPlace 1 = .ok (.invokevirtual 65, 3) := by decide +kernel
theorem dX4_readPlace_4 : decode cX4_readPlace 4 = .ok (.istore_n 1, 1) := by decide +kernel
theorem dX4_readPlace_5 : decode cX4_readPlace 5 = .ok (.iload_n 1, 1) := by decide +kernel
theorem dX4_readPlace_6 : decode cX4_readPlace 6 = .ok (.bipush (-9), 2) := by decide +kernel
theorem dX4_readPlace_8 : decode cX4_readPlace 8 = .ok (.if_icmp .eq 12, 3) := by decide +kernel
theorem dX4_readPlace_11 : decode cX4_readPlace 11 = .ok (.aload_n 0, 1) := by decide +kernel
theorem dX4_readPlace_12 : decode cX4_readPlace 12 = .ok (.getfield 47, 3) := by decide +kernel
theorem dX4_readPlace_15 : decode cX4_readPlace 15 = .ok (.bipush 14, 2) := by decide +kernel
theorem dX4_readPlace_17 : decode cX4_readPlace 17 = .ok (.if_icmp .lt 5, 3) := by decide +kernel
theorem dX4_readPlace_20 : decode cX4_readPlace 20 = .ok (.iconst 0, 1) := by decide +kernel
theorem dX4_readPlace_21 : decode cX4_readPlace 21 = .ok (.ireturn, 1) := by decide +kernel
theorem dX4_readPlace_22 : decode cX4_readPlace 22 = .ok (.aload_n 0, 1) := by decide +kernel
theorem dX4_readPlace_23 : decode cX4_readPlace 23 = .ok (.getfield 9, 3) := by decide +kernel
theorem dX4_readPlace_26 : decode cX4_readPlace 26 = .ok (.aload_n 0, 1) := by decide +kernel
theorem dX4_readPlace_27 : decode cX4_readPlace 27 = .ok (.getfield 47, 3) := by decide +kernel
theorem dX4_readPlace_30 : decode cX4_readPlace 30 = .ok (.iload_n 1, 1) := by decide +kernel
theorem dX4_readPlace_31 : decode cX4_readPlace 31 = .ok (.iastore, 1) := by decide +kernel
theorem dX4_readPlace_32 : decode cX4_readPlace 32 = .ok (.aload_n 0, 1) := by decide +kernel
theorem dX4_readPlace_33 : decode cX4_readPlace 33 = .ok (.dup, 1) := by decide +kernel
theorem dX4_readPlace_34 : decode cX4_readPlace 34 = .ok (.getfield 41, 3) := by decide +kernel
theorem dX4_readPlace_37 : decode cX4_readPlace 37 = .ok (.iconst 1, 1) := by decide +kernel
theorem dX4_readPlace_38 : decode cX4_readPlace 38 = .ok (.iadd, 1) := by decide +kernel
theorem dX4_readPlace_39 : decode cX4_readPlace 39 = .ok (.putfield 41, 3) := by decide +kernel
theorem dX4_readPlace_42 : decode cX4_readPlace 42 = .ok (.iconst 0, 1) := by decide +kernel
theorem dX4_readPlace_43 : decode cX4_readPlace 43 = .ok (.istore_n 2, 1) := by decide +kernel
theorem dX4_readPlace_44 : decode cX4_readPlace 44 = .ok (.iload_n 2, 1) := by decide +kernel
theorem dX4_readPlace_45 : decode cX4_readPlace 45 = .ok (.aload_n 0, 1) := by decide +kernel
theorem dX4_readPlace_46 : decode cX4_readPlace 46 = .ok (.getfield 44, 3) := by decide +kernel
theorem dX4_readPlace_49 : decode cX4_readPlace 49 = .ok (.if_icmp .ge 52, 3) := by decide +kernel
theorem dX4_readPlace_52 : decode cX4_readPlace 52 = .ok (.aload_n 0, 1) := by decide +kernel
theorem dX4_readPlace_53 : decode cX4_readPlace 53 = .ok (.bipush 48, 2) := by decide +kernel
theorem dX4_readPlace_55 : decode cX4_readPlace 55 = .ok (.bipush 57, 2) := by decide +kernel
theorem dX4_readPlace_57 : decode cX4_readPlace 57 = .ok (.invokevirtual 53, 3) := by decide +kernel
theorem dX4_readPlace_60 : decode cX4_readPlace 60 = .ok (.ifCond .ne 5, 3) := by decide +kernel
theorem dX4_readPlace_63 : decode cX4_readPlace 63 = .ok (.iconst 0, 1) := by decide +kernel
theorem dX4_readPlace_64 : decode cX4_readPlace 64 = .ok (.ireturn, 1) := by decide +kernel
theorem dX4_readPlace_65 : decode cX4_readPlace 65 = .ok (.aload_n 0, 1) := by decide +kernel
theorem dX4_readPlace_66 : decode cX4_readPlace 66 = .ok (.getfield 15, 3) := by decide +kernel
theorem dX4_readPlace_69 : decode cX4_readPlace 69 = .ok (.aload_n 0, 1) := by decide +kernel
theorem dX4_readPlace_70 : decode cX4_readPlace 70 = .ok (.getfield 47, 3) := by decide +kernel
theorem dX4_readPlace_73 : decode cX4_readPlace 73 = .ok (.iconst 4, 1) := by decide +kernel
theorem dX4_readPlace_74 : decode cX4_readPlace 74 = .ok (.imul, 1) := by decide +kernel
theorem dX4_readPlace_75 : decode cX4_readPlace 75 = .ok (.iload_n 2, 1) := by decide +kernel
theorem dX4_readPlace_76 : decode cX4_readPlace 76 = .ok (.iadd, 1) := by decide +kernel
theorem dX4_readPlace_77 : decode cX4_readPlace 77 = .ok (.aload_n 0, 1) := by decide +kernel
theorem dX4_readPlace_78 : decode cX4_readPlace 78 = .ok (.invokevirtual 57, 3) := by decide +kernel
theorem dX4_readPlace_81 : decode cX4_readPlace 81 = .ok (.bipush 48, 2) := by decide +kernel
theorem dX4_readPlace_83 : decode cX4_readPlace 83 = .ok (.isub, 1) := by decide +kernel
theorem dX4_readPlace_84 : decode cX4_readPlace 84 = .ok (.iastore, 1) := by decide +kernel
theorem dX4_readPlace_85 : decode cX4_readPlace 85 = .ok (.aload_n 0, 1) := by decide +kernel
theorem dX4_readPlace_86 : decode cX4_readPlace 86 = .ok (.dup, 1) := by decide +kernel
theorem dX4_readPlace_87 : decode cX4_readPlace 87 = .ok (.getfield 41, 3) := by decide +kernel
theorem dX4_readPlace_90 : decode cX4_readPlace 90 = .ok (.iconst 1, 1) := by decide +kernel
theorem dX4_readPlace_91 : decode cX4_readPlace 91 = .ok (.iadd, 1) := by decide +kernel
theorem dX4_readPlace_92 : decode cX4_readPlace 92 = .ok (.putfield 41, 3) := by decide +kernel
theorem dX4_readPlace_95 : decode cX4_readPlace 95 = .ok (.iinc 2 1, 3) := by decide +kernel
theorem dX4_readPlace_98 : decode cX4_readPlace 98 = .ok (.goto (-54), 3) := by decide +kernel
theorem dX4_readPlace_101 : decode cX4_readPlace 101 = .ok (.aload_n 0, 1) := by decide +kernel
theorem dX4_readPlace_102 : decode cX4_readPlace 102 = .ok (.dup, 1) := by decide +kernel
theorem dX4_readPlace_103 : decode cX4_readPlace 103 = .ok (.getfield 47, 3) := by decide +kernel
theorem dX4_readPlace_106 : decode cX4_readPlace 106 = .ok (.iconst 1, 1) := by decide +kernel
theorem dX4_readPlace_107 : decode cX4_readPlace 107 = .ok (.iadd, 1) := by decide +kernel
theorem dX4_readPlace_108 : decode cX4_readPlace 108 = .ok (.putfield 47, 3) := by decide +kernel
theorem dX4_readPlace_111 : decode cX4_readPlace 111 = .ok (.iconst 1, 1) := by decide +kernel
theorem dX4_readPlace_112 : decode cX4_readPlace 112 = .ok (.ireturn, 1) := by decide +kernel
theorem dX4_kindMeant_0 : decode cX4_kindMeant 0 = .ok (.iconst 0, 1) := by decide +kernel
theorem dX4_kindMeant_1 : decode cX4_kindMeant 1 = .ok (.istore_n 1, 1) := by decide +kernel
theorem dX4_kindMeant_2 : decode cX4_kindMeant 2 = .ok (.iload_n 1, 1) := by decide +kernel
theorem dX4_kindMeant_3 : decode cX4_kindMeant 3 = .ok (.getstatic 68, 3) := by decide +kernel
theorem dX4_kindMeant_6 : decode cX4_kindMeant 6 = .ok (.arraylength, 1) := by decide +kernel
theorem dX4_kindMeant_7 : decode cX4_kindMeant 7 = .ok (.if_icmp .ge 23, 3) := by decide +kernel
theorem dX4_kindMeant_10 : decode cX4_kindMeant 10 = .ok (.getstatic 68, 3) := by decide +kernel
theorem dX4_kindMeant_13 : decode cX4_kindMeant 13 = .ok (.iload_n 1, 1) := by decide +kernel
theorem dX4_kindMeant_14 : decode cX4_kindMeant 14 = .ok (.iaload, 1) := by decide +kernel
theorem dX4_kindMeant_15 : decode cX4_kindMeant 15 = .ok (.aload_n 0, 1) := by decide +kernel
theorem dX4_kindMeant_16 : decode cX4_kindMeant 16 = .ok (.invokevirtual 57, 3) := by decide +kernel
theorem dX4_kindMeant_19 : decode cX4_kindMeant 19 = .ok (.if_icmp .ne 5, 3) := by decide +kernel
theorem dX4_kindMeant_22 : decode cX4_kindMeant 22 = .ok (.iload_n 1, 1) := by decide +kernel
theorem dX4_kindMeant_23 : decode cX4_kindMeant 23 = .ok (.ireturn, 1) := by decide +kernel
theorem dX4_kindMeant_24 : decode cX4_kindMeant 24 = .ok (.iinc 1 1, 3) := by decide +kernel
theorem dX4_kindMeant_27 : decode cX4_kindMeant 27 = .ok (.goto (-25), 3) := by decide +kernel
theorem dX4_kindMeant_30 : decode cX4_kindMeant 30 = .ok (.bipush (-9), 2) := by decide +kernel
theorem dX4_kindMeant_32 : decode cX4_kindMeant 32 = .ok (.ireturn, 1) := by decide +kernel
theorem dX4_skipBlanks_0 : decode cX4_skipBlanks 0 = .ok (.aload_n 0, 1) := by decide +kernel
theorem dX4_skipBlanks_1 : decode cX4_skipBlanks 1 = .ok (.getfield 41, 3) := by decide +kernel
theorem dX4_skipBlanks_4 : decode cX4_skipBlanks 4 = .ok (.aload_n 0, 1) := by decide +kernel
theorem dX4_skipBlanks_5 : decode cX4_skipBlanks 5 = .ok (.getfield 38, 3) := by decide +kernel
theorem dX4_skipBlanks_8 : decode cX4_skipBlanks 8 = .ok (.if_icmp .ge 25, 3) := by decide +kernel
theorem dX4_skipBlanks_11 : decode cX4_skipBlanks 11 = .ok (.aload_n 0, 1) := by decide +kernel
theorem dX4_skipBlanks_12 : decode cX4_skipBlanks 12 = .ok (.invokevirtual 57, 3) := by decide +kernel
theorem dX4_skipBlanks_15 : decode cX4_skipBlanks 15 = .ok (.bipush 32, 2) := by decide +kernel
theorem dX4_skipBlanks_17 : decode cX4_skipBlanks 17 = .ok (.if_icmp .ne 16, 3) := by decide +kernel
theorem dX4_skipBlanks_20 : decode cX4_skipBlanks 20 = .ok (.aload_n 0, 1) := by decide +kernel
theorem dX4_skipBlanks_21 : decode cX4_skipBlanks 21 = .ok (.dup, 1) := by decide +kernel
theorem dX4_skipBlanks_22 : decode cX4_skipBlanks 22 = .ok (.getfield 41, 3) := by decide +kernel
theorem dX4_skipBlanks_25 : decode cX4_skipBlanks 25 = .ok (.iconst 1, 1) := by decide +kernel
theorem dX4_skipBlanks_26 : decode cX4_skipBlanks 26 = .ok (.iadd, 1) := by decide +kernel
theorem dX4_skipBlanks_27 : decode cX4_skipBlanks 27 = .ok (.putfield 41, 3) := by decide +kernel
theorem dX4_skipBlanks_30 : decode cX4_skipBlanks 30 = .ok (.goto (-30), 3) := by decide +kernel
theorem dX4_skipBlanks_33 : decode cX4_skipBlanks 33 = .ok (.return_, 1) := by decide +kernel
theorem dX4_isNext_0 : decode cX4_isNext 0 = .ok (.aload_n 0, 1) := by decide +kernel
theorem dX4_isNext_1 : decode cX4_isNext 1 = .ok (.getfield 41, 3) := by decide +kernel
theorem dX4_isNext_4 : decode cX4_isNext 4 = .ok (.aload_n 0, 1) := by decide +kernel
theorem dX4_isNext_5 : decode cX4_isNext 5 = .ok (.getfield 38, 3) := by decide +kernel
theorem dX4_isNext_8 : decode cX4_isNext 8 = .ok (.if_icmp .ge 23, 3) := by decide +kernel
theorem dX4_isNext_11 : decode cX4_isNext 11 = .ok (.aload_n 0, 1) := by decide +kernel
theorem dX4_isNext_12 : decode cX4_isNext 12 = .ok (.invokevirtual 57, 3) := by decide +kernel
theorem dX4_isNext_15 : decode cX4_isNext 15 = .ok (.iload_n 1, 1) := by decide +kernel
theorem dX4_isNext_16 : decode cX4_isNext 16 = .ok (.if_icmp .lt 15, 3) := by decide +kernel
theorem dX4_isNext_19 : decode cX4_isNext 19 = .ok (.aload_n 0, 1) := by decide +kernel
theorem dX4_isNext_20 : decode cX4_isNext 20 = .ok (.invokevirtual 57, 3) := by decide +kernel
theorem dX4_isNext_23 : decode cX4_isNext 23 = .ok (.iload_n 2, 1) := by decide +kernel
theorem dX4_isNext_24 : decode cX4_isNext 24 = .ok (.if_icmp .gt 7, 3) := by decide +kernel
theorem dX4_isNext_27 : decode cX4_isNext 27 = .ok (.iconst 1, 1) := by decide +kernel
theorem dX4_isNext_28 : decode cX4_isNext 28 = .ok (.goto 4, 3) := by decide +kernel
theorem dX4_isNext_31 : decode cX4_isNext 31 = .ok (.iconst 0, 1) := by decide +kernel
theorem dX4_isNext_32 : decode cX4_isNext 32 = .ok (.ireturn, 1) := by decide +kernel
theorem dX4_sign_0 : decode cX4_sign 0 = .ok (.aload_n 0, 1) := by decide +kernel
theorem dX4_sign_1 : decode cX4_sign 1 = .ok (.getfield 18, 3) := by decide +kernel
theorem dX4_sign_4 : decode cX4_sign 4 = .ok (.aload_n 0, 1) := by decide +kernel
theorem dX4_sign_5 : decode cX4_sign 5 = .ok (.getfield 22, 3) := by decide +kernel
theorem dX4_sign_8 : decode cX4_sign 8 = .ok (.aload_n 0, 1) := by decide +kernel
theorem dX4_sign_9 : decode cX4_sign 9 = .ok (.getfield 41, 3) := by decide +kernel
theorem dX4_sign_12 : decode cX4_sign 12 = .ok (.invokevirtual 71, 3) := by decide +kernel
theorem dX4_sign_15 : decode cX4_sign 15 = .ok (.ireturn, 1) := by decide +kernel
theorem dX5_init_0 : decode cX5_init 0 = .ok (.aload_n 0, 1) := by decide +kernel
theorem dX5_init_1 : decode cX5_init 1 = .ok (.invokespecial 1, 3) := by decide +kernel
theorem dX5_init_4 : decode cX5_init 4 = .ok (.aload_n 0, 1) := by decide +kernel
theorem dX5_init_5 : decode cX5_init 5 = .ok (.new 7, 3) := by decide +kernel
theorem dX5_init_8 : decode cX5_init 8 = .ok (.dup, 1) := by decide +kernel
theorem dX5_init_9 : decode cX5_init 9 = .ok (.bipush 6, 2) := by decide +kernel
theorem dX5_init_11 : decode cX5_init 11 = .ok (.invokespecial 11, 3) := by decide +kernel
theorem dX5_init_14 : decode cX5_init 14 = .ok (.putfield 14, 3) := by decide +kernel
theorem dX5_init_17 : decode cX5_init 17 = .ok (.aload_n 0, 1) := by decide +kernel
theorem dX5_init_18 : decode cX5_init 18 = .ok (.bipush 6, 2) := by decide +kernel
theorem dX5_init_20 : decode cX5_init 20 = .ok (.bipush 40, 2) := by decide +kernel
theorem dX5_init_22 : decode cX5_init 22 = .ok (.multianewarray 18 2, 4) := by decide +kernel
theorem dX5_init_26 : decode cX5_init 26 = .ok (.putfield 20, 3) := by decide +kernel
theorem dX5_init_29 : decode cX5_init 29 = .ok (.return_, 1) := by decide +kernel
theorem dX5_make_0 : decode cX5_make 0 = .ok (.aload_n 0, 1) := by decide +kernel
theorem dX5_make_1 : decode cX5_make 1 = .ok (.getfield 14, 3) := by decide +kernel
theorem dX5_make_4 : decode cX5_make 4 = .ok (.iload_n 1, 1) := by decide +kernel
theorem dX5_make_5 : decode cX5_make 5 = .ok (.invokevirtual 23, 3) := by decide +kernel
theorem dX5_make_8 : decode cX5_make 8 = .ok (.ifCond .eq 13, 3) := by decide +kernel
theorem dX5_make_11 : decode cX5_make 11 = .ok (.iload_n 2, 1) := by decide +kernel
theorem dX5_make_12 : decode cX5_make 12 = .ok (.ifCond .lt 9, 3) := by decide +kernel
theorem dX5_make_15 : decode cX5_make 15 = .ok (.iload_n 2, 1) := by decide +kernel
theorem dX5_make_16 : decode cX5_make 16 = .ok (.bipush 40, 2) := by decide +kernel
theorem dX5_make_18 : decode cX5_make 18 = .ok (.if_icmp .le 4, 3) := by decide +kernel
theorem dX5_make_21 : decode cX5_make 21 = .ok (.return_, 1) := by decide +kernel
theorem dX5_make_22 : decode cX5_make 22 = .ok (.aload_n 0, 1) := by decide +kernel
theorem dX5_make_23 : decode cX5_make 23 = .ok (.getfield 14, 3) := by decide +kernel
theorem dX5_make_26 : decode cX5_make 26 = .ok (.iload_n 1, 1) := by decide +kernel
theorem dX5_make_27 : decode cX5_make 27 = .ok (.iload_n 2, 1) := by decide +kernel
theorem dX5_make_28 : decode cX5_make 28 = .ok (.invokevirtual 27, 3) := by decide +kernel
theorem dX5_make_31 : decode cX5_make 31 = .ok (.aload_n 0, 1) := by decide +kernel
theorem dX5_make_32 : decode cX5_make 32 = .ok (.getfield 20, 3) := by decide +kernel
theorem dX5_make_35 : decode cX5_make 35 = .ok (.iload_n 1, 1) := by decide +kernel
theorem dX5_make_36 : decode cX5_make 36 = .ok (.aaload, 1) := by decide +kernel
theorem dX5_make_37 : decode cX5_make 37 = .ok (.iconst 0, 1) := by decide +kernel
theorem dX5_make_38 : decode cX5_make 38 = .ok (.invokestatic 31, 3) := by decide +kernel
theorem dX5_make_41 : decode cX5_make 41 = .ok (.return_, 1) := by decide +kernel
theorem dX5_get_0 : decode cX5_get 0 = .ok (.aload_n 0, 1) := by decide +kernel
theorem dX5_get_1 : decode cX5_get 1 = .ok (.getfield 14, 3) := by decide +kernel
theorem dX5_get_4 : decode cX5_get 4 = .ok (.iload_n 1, 1) := by decide +kernel
theorem dX5_get_5 : decode cX5_get 5 = .ok (.iload_n 2, 1) := by decide +kernel
theorem dX5_get_6 : decode cX5_get 6 = .ok (.iconst 1, 1) := by decide +kernel
theorem dX5_get_7 : decode cX5_get 7 = .ok (.invokevirtual 37, 3) := by decide +kernel
theorem dX5_get_10 : decode cX5_get 10 = .ok (.ifCond .eq 14, 3) := by decide +kernel
theorem dX5_get_13 : decode cX5_get 13 = .ok (.aload_n 0, 1) := by decide +kernel
theorem dX5_get_14 : decode cX5_get 14 = .ok (.getfield 20, 3) := by decide +kernel
theorem dX5_get_17 : decode cX5_get 17 = .ok (.iload_n 1, 1) := by decide +kernel
theorem dX5_get_18 : decode cX5_get 18 = .ok (.aaload, 1) := by decide +kernel
theorem dX5_get_19 : decode cX5_get 19 = .ok (.iload_n 2, 1) := by decide +kernel
theorem dX5_get_20 : decode cX5_get 20 = .ok (.iaload, 1) := by decide +kernel
theorem dX5_get_21 : decode cX5_get 21 = .ok (.goto 4, 3) := by decide +kernel
theorem dX5_get_24 : decode cX5_get 24 = .ok (.iconst 0, 1) := by decide +kernel
theorem dX5_get_25 : decode cX5_get 25 = .ok (.ireturn, 1) := by decide +kernel
theorem dX5_set_0 : decode cX5_set 0 = .ok (.aload_n 0, 1) := by decide +kernel
theorem dX5_set_1 : decode cX5_set 1 = .ok (.getfield 14, 3) := by decide +kernel
theorem dX5_set_4 : decode cX5_set 4 = .ok (.iload_n 1, 1) := by decide +kernel
theorem dX5_set_5 : decode cX5_set 5 = .ok (.iload_n 2, 1) := by decide +kernel
theorem dX5_set_6 : decode cX5_set 6 = .ok (.iconst 1, 1) := by decide +kernel
theorem dX5_set_7 : decode cX5_set 7 = .ok (.invokevirtual 37, 3) := by decide +kernel
theorem dX5_set_10 : decode cX5_set 10 = .ok (.ifCond .eq 12, 3) := by decide +kernel
theorem dX5_set_13 : decode cX5_set 13 = .ok (.aload_n 0, 1) := by decide +kernel
theorem dX5_set_14 : decode cX5_set 14 = .ok (.getfield 20, 3) := by decide +kernel
theorem dX5_set_17 : decode cX5_set 17 = .ok (.iload_n 1, 1) := by decide +kernel
theorem dX5_set_18 : decode cX5_set 18 = .ok (.aaload, 1) := by decide +kernel
theorem dX5_set_19 : decode cX5_set 19 = .ok (.iload_n 2, 1) := by decide +kernel
theorem dX5_set_20 : decode cX5_set 20 = .ok (.iload_n 3, 1) := by decide +kernel
theorem dX5_set_21 : decode cX5_set 21 = .ok (.iastore, 1) := by decide +kernel
theorem dX5_set_22 : decode cX5_set 22 = .ok (.return_, 1) := by decide +kernel
theorem dX5_move_0 : decode cX5_move 0 = .ok (.aload_n 0, 1) := by decide +kernel
theorem dX5_move_1 : decode cX5_move 1 = .ok (.getfield 14, 3) := by decide +kernel
theorem dX5_move_4 : decode cX5_move 4 = .ok (.iload_n 1, 1) := by decide +kernel
theorem dX5_move_5 : decode cX5_move 5 = .ok (.iload_n 2, 1) := by decide +kernel
theorem dX5_move_6 : decode cX5_move 6 = .ok (.iload 5, 2) := by decide +kernel
theorem dX5_move_8 : decode cX5_move 8 = .ok (.invokevirtual 37, 3) := by decide +kernel
theorem dX5_move_11 : decode cX5_move 11 = .ok (.ifCond .eq 18, 3) := by decide +kernel
theorem dX5_move_14 : decode cX5_move 14 = .ok (.aload_n 0, 1) := by decide +kernel
theorem dX5_move_15 : decode cX5_move 15 = .ok (.getfield 14, 3) := by decide +kernel
theorem dX5_move_18 : decode cX5_move 18 = .ok (.iload_n 3, 1) := by decide +kernel
theorem dX5_move_19 : decode cX5_move 19 = .ok (.iload 4, 2) := by decide +kernel
theorem dX5_move_21 : decode cX5_move 21 = .ok (.iload 5, 2) := by decide +kernel
theorem dX5_move_23 : decode cX5_move 23 = .ok (.invokevirtual 37, 3) := by decide +kernel
theorem dX5_move_26 : decode cX5_move 26 = .ok (.ifCond .ne 4, 3) := by decide +kernel
theorem dX5_move_29 : decode cX5_move 29 = .ok (.return_, 1) := by decide +kernel
theorem dX5_move_30 : decode cX5_move 30 = .ok (.aload_n 0, 1) := by decide +kernel
theorem dX5_move_31 : decode cX5_move 31 = .ok (.getfield 20, 3) := by decide +kernel
theorem dX5_move_34 : decode cX5_move 34 = .ok (.iload_n 1, 1) := by decide +kernel
theorem dX5_move_35 : decode cX5_move 35 = .ok (.aaload, 1) := by decide +kernel
theorem dX5_move_36 : decode cX5_move 36 = .ok (.iload_n 2, 1) := by decide +kernel
theorem dX5_move_37 : decode cX5_move 37 = .ok (.aload_n 0, 1) := by decide +kernel
theorem dX5_move_38 : decode cX5_move 38 = .ok (.getfield 20, 3) := by decide +kernel
theorem dX5_move_41 : decode cX5_move 41 = .ok (.iload_n 3, 1) := by decide +kernel
theorem dX5_move_42 : decode cX5_move 42 = .ok (.aaload, 1) := by decide +kernel
theorem dX5_move_43 : decode cX5_move 43 = .ok (.iload 4, 2) := by decide +kernel
theorem dX5_move_45 : decode cX5_move 45 = .ok (.iload 5, 2) := by decide +kernel
theorem dX5_move_47 : decode cX5_move 47 = .ok (.invokestatic 41, 3) := by decide +kernel
theorem dX5_move_50 : decode cX5_move 50 = .ok (.return_, 1) := by decide +kernel
theorem dX5_sum_0 : decode cX5_sum 0 = .ok (.lconst 0, 1) := by decide +kernel
theorem dX5_sum_1 : decode cX5_sum 1 = .ok (.lstore_n 2, 1) := by decide +kernel
theorem dX5_sum_2 : decode cX5_sum 2 = .ok (.aload_n 0, 1) := by decide +kernel
theorem dX5_sum_3 : decode cX5_sum 3 = .ok (.getfield 14, 3) := by decide +kernel
theorem dX5_sum_6 : decode cX5_sum 6 = .ok (.iload_n 1, 1) := by decide +kernel
theorem dX5_sum_7 : decode cX5_sum 7 = .ok (.invokevirtual 47, 3) := by decide +kernel
theorem dX5_sum_10 : decode cX5_sum 10 = .ok (.istore 4, 2) := by decide +kernel
theorem dX5_sum_12 : decode cX5_sum 12 = .ok (.iconst 0, 1) := by decide +kernel
theorem dX5_sum_13 : decode cX5_sum 13 = .ok (.istore 5, 2) := by decide +kernel
theorem dX5_sum_15 : decode cX5_sum 15 = .ok (.iload 5, 2) := by decide +kernel
theorem dX5_sum_17 : decode cX5_sum 17 = .ok (.iload 4, 2) := by decide +kernel
theorem dX5_sum_19 : decode cX5_sum 19 = .ok (.if_icmp .ge 20, 3) := by decide +kernel
theorem dX5_sum_22 : decode cX5_sum 22 = .ok (.lload_n 2, 1) := by decide +kernel
theorem dX5_sum_23 : decode cX5_sum 23 = .ok (.aload_n 0, 1) := by decide +kernel
theorem dX5_sum_24 : decode cX5_sum 24 = .ok (.iload_n 1, 1) := by decide +kernel
theorem dX5_sum_25 : decode cX5_sum 25 = .ok (.iload 5, 2) := by decide +kernel
theorem dX5_sum_27 : decode cX5_sum 27 = .ok (.invokevirtual 51, 3) := by decide +kernel
theorem dX5_sum_30 : decode cX5_sum 30 = .ok (.i2l, 1) := by decide +kernel
theorem dX5_sum_31 : decode cX5_sum 31 = .ok (.ladd, 1) := by decide +kernel
theorem dX5_sum_32 : decode cX5_sum 32 = .ok (.lstore_n 2, 1) := by decide +kernel
theorem dX5_sum_33 : decode cX5_sum 33 = .ok (.iinc 5 1, 3) := by decide +kernel
theorem dX5_sum_36 : decode cX5_sum 36 = .ok (.goto (-21), 3) := by decide +kernel
theorem dX5_sum_39 : decode cX5_sum 39 = .ok (.lload_n 2, 1) := by decide +kernel
theorem dX5_sum_40 : decode cX5_sum 40 = .ok (.lreturn, 1) := by decide +kernel
theorem dX5_digestOn_0 : decode cX5_digestOn 0 = .ok (.lload_n 1, 1) := by decide +kernel
theorem dX5_digestOn_1 : decode cX5_digestOn 1 = .ok (.lstore_n 3, 1) := by decide +kernel
theorem dX5_digestOn_2 : decode cX5_digestOn 2 = .ok (.iconst 0, 1) := by decide +kernel
theorem dX5_digestOn_3 : decode cX5_digestOn 3 = .ok (.istore 5, 2) := by decide +kernel
theorem dX5_digestOn_5 : decode cX5_digestOn 5 = .ok (.iload 5, 2) := by decide +kernel
theorem dX5_digestOn_7 : decode cX5_digestOn 7 = .ok (.bipush 6, 2) := by decide +kernel
theorem dX5_digestOn_9 : decode cX5_digestOn 9 = .ok (.if_icmp .ge 62, 3) := by decide +kernel
theorem dX5_digestOn_12 : decode cX5_digestOn 12 = .ok (.aload_n 0, 1) := by decide +kernel
theorem dX5_digestOn_13 : decode cX5_digestOn 13 = .ok (.getfield 14, 3) := by decide +kernel
theorem dX5_digestOn_16 : decode cX5_digestOn 16 = .ok (.iload 5, 2) := by decide +kernel
theorem dX5_digestOn_18 : decode cX5_digestOn 18 = .ok (.invokevirtual 47, 3) := by decide +kernel
theorem dX5_digestOn_21 : decode cX5_digestOn 21 = .ok (.istore 6, 2) := by decide +kernel
theorem dX5_digestOn_23 : decode cX5_digestOn 23 = .ok (.ldc2_w 55, 3) := by decide +kernel
theorem dX5_digestOn_26 : decode cX5_digestOn 26 = .ok (.lload_n 3, 1) := by decide +kernel
theorem dX5_digestOn_27 : decode cX5_digestOn 27 = .ok (.lmul, 1) := by decide +kernel
theorem dX5_digestOn_28 : decode cX5_digestOn 28 = .ok (.iload 6, 2) := by decide +kernel
theorem dX5_digestOn_30 : decode cX5_digestOn 30 = .ok (.i2l, 1) := by decide +kernel
theorem dX5_digestOn_31 : decode cX5_digestOn 31 = .ok (.ladd, 1) := by decide +kernel
theorem dX5_digestOn_32 : decode cX5_digestOn 32 = .ok (.lstore_n 3, 1) := by decide +kernel
theorem dX5_digestOn_33 : decode cX5_digestOn 33 = .ok (.iconst 0, 1) := by decide +kernel
theorem dX5_digestOn_34 : decode cX5_digestOn 34 = .ok (.istore 7, 2) := by decide +kernel
theorem dX5_digestOn_36 : decode cX5_digestOn 36 = .ok (.iload 7, 2) := by decide +kernel
theorem dX5_digestOn_38 : decode cX5_digestOn 38 = .ok (.iload 6, 2) := by decide +kernel
theorem dX5_digestOn_40 : decode cX5_digestOn 40 = .ok (.if_icmp .ge 25, 3) := by decide +kernel
theorem dX5_digestOn_43 : decode cX5_digestOn 43 = .ok (.ldc2_w 55, 3) := by decide +kernel
theorem dX5_digestOn_46 : decode cX5_digestOn 46 = .ok (.lload_n 3, 1) := by decide +kernel
theorem dX5_digestOn_47 : decode cX5_digestOn 47 = .ok (.lmul, 1) := by decide +kernel
theorem dX5_digestOn_48 : decode cX5_digestOn 48 = .ok (.aload_n 0, 1) := by decide +kernel
theorem dX5_digestOn_49 : decode cX5_digestOn 49 = .ok (.iload 5, 2) := by decide +kernel
theorem dX5_digestOn_51 : decode cX5_digestOn 51 = .ok (.iload 7, 2) := by decide +kernel
theorem dX5_digestOn_53 : decode cX5_digestOn 53 = .ok (.invokevirtual 51, 3) := by decide +kernel
theorem dX5_digestOn_56 : decode cX5_digestOn 56 = .ok (.i2l, 1) := by decide +kernel
theorem dX5_digestOn_57 : decode cX5_digestOn 57 = .ok (.ladd, 1) := by decide +kernel
theorem dX5_digestOn_58 : decode cX5_digestOn 58 = .ok (.lstore_n 3, 1) := by decide +kernel
theorem dX5_digestOn_59 : decode cX5_digestOn 59 = .ok (.iinc 7 1, 3) := by decide +kernel
theorem dX5_digestOn_62 : decode cX5_digestOn 62 = .ok (.goto (-26), 3) := by decide +kernel
theorem dX5_digestOn_65 : decode cX5_digestOn 65 = .ok (.iinc 5 1, 3) := by decide +kernel
theorem dX5_digestOn_68 : decode cX5_digestOn 68 = .ok (.goto (-63), 3) := by decide +kernel
theorem dX5_digestOn_71 : decode cX5_digestOn 71 = .ok (.lload_n 3, 1) := by decide +kernel
theorem dX5_digestOn_72 : decode cX5_digestOn 72 = .ok (.lreturn, 1) := by decide +kernel
theorem dX6_init_0 : decode cX6_init 0 = .ok (.aload_n 0, 1) := by decide +kernel
theorem dX6_init_1 : decode cX6_init 1 = .ok (.invokespecial 3, 3) := by decide +kernel
theorem dX6_init_4 : decode cX6_init 4 = .ok (.aload_n 0, 1) := by decide +kernel
theorem dX6_init_5 : decode cX6_init 5 = .ok (.new 9, 3) := by decide +kernel
theorem dX6_init_8 : decode cX6_init 8 = .ok (.dup, 1) := by decide +kernel
theorem dX6_init_9 : decode cX6_init 9 = .ok (.iconst 3, 1) := by decide +kernel
theorem dX6_init_10 : decode cX6_init 10 = .ok (.invokespecial 13, 3) := by decide +kernel
theorem dX6_init_13 : decode cX6_init 13 = .ok (.putfield 16, 3) := by decide +kernel
theorem dX6_init_16 : decode cX6_init 16 = .ok (.aload_n 0, 1) := by decide +kernel
theorem dX6_init_17 : decode cX6_init 17 = .ok (.iconst 3, 1) := by decide +kernel
theorem dX6_init_18 : decode cX6_init 18 = .ok (.bipush 40, 2) := by decide +kernel
theorem dX6_init_20 : decode cX6_init 20 = .ok (.multianewarray 20 2, 4) := by decide +kernel
theorem dX6_init_24 : decode cX6_init 24 = .ok (.putfield 22, 3) := by decide +kernel
theorem dX6_init_27 : decode cX6_init 27 = .ok (.return_, 1) := by decide +kernel
theorem dX6_keep_0 : decode cX6_keep 0 = .ok (.aload_n 0, 1) := by decide +kernel
theorem dX6_keep_1 : decode cX6_keep 1 = .ok (.getfield 16, 3) := by decide +kernel
theorem dX6_keep_4 : decode cX6_keep 4 = .ok (.iload_n 1, 1) := by decide +kernel
theorem dX6_keep_5 : decode cX6_keep 5 = .ok (.invokevirtual 25, 3) := by decide +kernel
theorem dX6_keep_8 : decode cX6_keep 8 = .ok (.ifCond .ne 4, 3) := by decide +kernel
theorem dX6_keep_11 : decode cX6_keep 11 = .ok (.return_, 1) := by decide +kernel
theorem dX6_keep_12 : decode cX6_keep 12 = .ok (.aload_n 2, 1) := by decide +kernel
theorem dX6_keep_13 : decode cX6_keep 13 = .ok (.getfield 29, 3) := by decide +kernel
theorem dX6_keep_16 : decode cX6_keep 16 = .ok (.iconst 0, 1) := by decide +kernel
theorem dX6_keep_17 : decode cX6_keep 17 = .ok (.aload_n 0, 1) := by decide +kernel
theorem dX6_keep_18 : decode cX6_keep 18 = .ok (.getfield 22, 3) := by decide +kernel
theorem dX6_keep_21 : decode cX6_keep 21 = .ok (.iload_n 1, 1) := by decide +kernel
theorem dX6_keep_22 : decode cX6_keep 22 = .ok (.aaload, 1) := by decide +kernel
theorem dX6_keep_23 : decode cX6_keep 23 = .ok (.iconst 0, 1) := by decide +kernel
theorem dX6_keep_24 : decode cX6_keep 24 = .ok (.bipush 40, 2) := by decide +kernel
theorem dX6_keep_26 : decode cX6_keep 26 = .ok (.invokestatic 34, 3) := by decide +kernel
theorem dX6_keep_29 : decode cX6_keep 29 = .ok (.aload_n 0, 1) := by decide +kernel
theorem dX6_keep_30 : decode cX6_keep 30 = .ok (.getfield 16, 3) := by decide +kernel
theorem dX6_keep_33 : decode cX6_keep 33 = .ok (.iload_n 1, 1) := by decide +kernel
theorem dX6_keep_34 : decode cX6_keep 34 = .ok (.aload_n 2, 1) := by decide +kernel
theorem dX6_keep_35 : decode cX6_keep 35 = .ok (.getfield 40, 3) := by decide +kernel
theorem dX6_keep_38 : decode cX6_keep 38 = .ok (.invokevirtual 44, 3) := by decide +kernel
theorem dX6_keep_41 : decode cX6_keep 41 = .ok (.return_, 1) := by decide +kernel
theorem dX6_bringBack_0 : decode cX6_bringBack 0 = .ok (.aload_n 0, 1) := by decide +kernel
theorem dX6_bringBack_1 : decode cX6_bringBack 1 = .ok (.getfield 16, 3) := by decide +kernel
theorem dX6_bringBack_4 : decode cX6_bringBack 4 = .ok (.iload_n 1, 1) := by decide +kernel
theorem dX6_bringBack_5 : decode cX6_bringBack 5 = .ok (.invokevirtual 48, 3) := by decide +kernel
theorem dX6_bringBack_8 : decode cX6_bringBack 8 = .ok (.ifCond .ne 4, 3) := by decide +kernel
theorem dX6_bringBack_11 : decode cX6_bringBack 11 = .ok (.return_, 1) := by decide +kernel
theorem dX6_bringBack_12 : decode cX6_bringBack 12 = .ok (.aload_n 0, 1) := by decide +kernel
theorem dX6_bringBack_13 : decode cX6_bringBack 13 = .ok (.getfield 22, 3) := by decide +kernel
theorem dX6_bringBack_16 : decode cX6_bringBack 16 = .ok (.iload_n 1, 1) := by decide +kernel
theorem dX6_bringBack_17 : decode cX6_bringBack 17 = .ok (.aaload, 1) := by decide +kernel
theorem dX6_bringBack_18 : decode cX6_bringBack 18 = .ok (.iconst 0, 1) := by decide +kernel
theorem dX6_bringBack_19 : decode cX6_bringBack 19 = .ok (.aload_n 2, 1) := by decide +kernel
theorem dX6_bringBack_20 : decode cX6_bringBack 20 = .ok (.getfield 29, 3) := by decide +kernel
theorem dX6_bringBack_23 : decode cX6_bringBack 23 = .ok (.iconst 0, 1) := by decide +kernel
theorem dX6_bringBack_24 : decode cX6_bringBack 24 = .ok (.bipush 40, 2) := by decide +kernel
theorem dX6_bringBack_26 : decode cX6_bringBack 26 = .ok (.invokestatic 34, 3) := by decide +kernel
theorem dX6_bringBack_29 : decode cX6_bringBack 29 = .ok (.aload_n 2, 1) := by decide +kernel
theorem dX6_bringBack_30 : decode cX6_bringBack 30 = .ok (.aload_n 0, 1) := by decide +kernel
theorem dX6_bringBack_31 : decode cX6_bringBack 31 = .ok (.getfield 16, 3) := by decide +kernel
theorem dX6_bringBack_34 : decode cX6_bringBack 34 = .ok (.iload_n 1, 1) := by decide +kernel
theorem dX6_bringBack_35 : decode cX6_bringBack 35 = .ok (.invokevirtual 51, 3) := by decide +kernel
theorem dX6_bringBack_38 : decode cX6_bringBack 38 = .ok (.invokevirtual 55, 3) := by decide +kernel
theorem dX6_bringBack_41 : decode cX6_bringBack 41 = .ok (.return_, 1) := by decide +kernel
theorem dX7_init_0 : decode cX7_init 0 = .ok (.aload_n 0, 1) := by decide +kernel
theorem dX7_init_1 : decode cX7_init 1 = .ok (.invokespecial 1, 3) := by decide +kernel
theorem dX7_init_4 : decode cX7_init 4 = .ok (.aload_n 0, 1) := by decide +kernel
theorem dX7_init_5 : decode cX7_init 5 = .ok (.iload_n 1, 1) := by decide +kernel
theorem dX7_init_6 : decode cX7_init 6 = .ok (.iconst 0, 1) := by decide +kernel
theorem dX7_init_7 : decode cX7_init 7 = .ok (.invokestatic 7, 3) := by decide +kernel
theorem dX7_init_10 : decode cX7_init 10 = .ok (.newarray .int, 2) := by decide +kernel
theorem dX7_init_12 : decode cX7_init 12 = .ok (.putfield 13, 3) := by decide +kernel
theorem dX7_init_15 : decode cX7_init 15 = .ok (.aload_n 0, 1) := by decide +kernel
theorem dX7_init_16 : decode cX7_init 16 = .ok (.getfield 13, 3) := by decide +kernel
theorem dX7_init_19 : decode cX7_init 19 = .ok (.iconst (-1), 1) := by decide +kernel
theorem dX7_init_20 : decode cX7_init 20 = .ok (.invokestatic 19, 3) := by decide +kernel
theorem dX7_init_23 : decode cX7_init 23 = .ok (.return_, 1) := by decide +kernel
theorem dX7_isNumber_0 : decode cX7_isNumber 0 = .ok (.iload_n 1, 1) := by decide +kernel
theorem dX7_isNumber_1 : decode cX7_isNumber 1 = .ok (.ifCond .lt 16, 3) := by decide +kernel
theorem dX7_isNumber_4 : decode cX7_isNumber 4 = .ok (.iload_n 1, 1) := by decide +kernel
theorem dX7_isNumber_5 : decode cX7_isNumber 5 = .ok (.aload_n 0, 1) := by decide +kernel
theorem dX7_isNumber_6 : decode cX7_isNumber 6 = .ok (.getfield 13, 3) := by decide +kernel
theorem dX7_isNumber_9 : decode cX7_isNumber 9 = .ok (.arraylength, 1) := by decide +kernel
theorem dX7_isNumber_10 : decode cX7_isNumber 10 = .ok (.if_icmp .ge 7, 3) := by decide +kernel
theorem dX7_isNumber_13 : decode cX7_isNumber 13 = .ok (.iconst 1, 1) := by decide +kernel
theorem dX7_isNumber_14 : decode cX7_isNumber 14 = .ok (.goto 4, 3) := by decide +kernel
theorem dX7_isNumber_17 : decode cX7_isNumber 17 = .ok (.iconst 0, 1) := by decide +kernel
theorem dX7_isNumber_18 : decode cX7_isNumber 18 = .ok (.ireturn, 1) := by decide +kernel
theorem dX7_isThere_0 : decode cX7_isThere 0 = .ok (.aload_n 0, 1) := by decide +kernel
theorem dX7_isThere_1 : decode cX7_isThere 1 = .ok (.iload_n 1, 1) := by decide +kernel
theorem dX7_isThere_2 : decode cX7_isThere 2 = .ok (.invokevirtual 25, 3) := by decide +kernel
theorem dX7_isThere_5 : decode cX7_isThere 5 = .ok (.iconst (-1), 1) := by decide +kernel
theorem dX7_isThere_6 : decode cX7_isThere 6 = .ok (.if_icmp .eq 7, 3) := by decide +kernel
theorem dX7_isThere_9 : decode cX7_isThere 9 = .ok (.iconst 1, 1) := by decide +kernel
theorem dX7_isThere_10 : decode cX7_isThere 10 = .ok (.goto 4, 3) := by decide +kernel
theorem dX7_isThere_13 : decode cX7_isThere 13 = .ok (.iconst 0, 1) := by decide +kernel
theorem dX7_isThere_14 : decode cX7_isThere 14 = .ok (.ireturn, 1) := by decide +kernel
theorem dX7_of_0 : decode cX7_of 0 = .ok (.aload_n 0, 1) := by decide +kernel
theorem dX7_of_1 : decode cX7_of 1 = .ok (.iload_n 1, 1) := by decide +kernel
theorem dX7_of_2 : decode cX7_of 2 = .ok (.invokevirtual 29, 3) := by decide +kernel
theorem dX7_of_5 : decode cX7_of 5 = .ok (.ifCond .eq 12, 3) := by decide +kernel
theorem dX7_of_8 : decode cX7_of 8 = .ok (.aload_n 0, 1) := by decide +kernel
theorem dX7_of_9 : decode cX7_of 9 = .ok (.getfield 13, 3) := by decide +kernel
theorem dX7_of_12 : decode cX7_of 12 = .ok (.iload_n 1, 1) := by decide +kernel
theorem dX7_of_13 : decode cX7_of 13 = .ok (.iaload, 1) := by decide +kernel
theorem dX7_of_14 : decode cX7_of 14 = .ok (.goto 4, 3) := by decide +kernel
theorem dX7_of_17 : decode cX7_of 17 = .ok (.iconst (-1), 1) := by decide +kernel
theorem dX7_of_18 : decode cX7_of 18 = .ok (.ireturn, 1) := by decide +kernel
theorem dX7_holds_0 : decode cX7_holds 0 = .ok (.iload_n 2, 1) := by decide +kernel
theorem dX7_holds_1 : decode cX7_holds 1 = .ok (.ifCond .lt 26, 3) := by decide +kernel
theorem dX7_holds_4 : decode cX7_holds 4 = .ok (.iload_n 3, 1) := by decide +kernel
theorem dX7_holds_5 : decode cX7_holds 5 = .ok (.ifCond .lt 22, 3) := by decide +kernel
theorem dX7_holds_8 : decode cX7_holds 8 = .ok (.iload_n 2, 1) := by decide +kernel
theorem dX7_holds_9 : decode cX7_holds 9 = .ok (.i2l, 1) := by decide +kernel
theorem dX7_holds_10 : decode cX7_holds 10 = .ok (.iload_n 3, 1) := by decide +kernel
theorem dX7_holds_11 : decode cX7_holds 11 = .ok (.i2l, 1) := by decide +kernel
theorem dX7_holds_12 : decode cX7_holds 12 = .ok (.ladd, 1) := by decide +kernel
theorem dX7_holds_13 : decode cX7_holds 13 = .ok (.aload_n 0, 1) := by decide +kernel
theorem dX7_holds_14 : decode cX7_holds 14 = .ok (.iload_n 1, 1) := by decide +kernel
theorem dX7_holds_15 : decode cX7_holds 15 = .ok (.invokevirtual 25, 3) := by decide +kernel
theorem dX7_holds_18 : decode cX7_holds 18 = .ok (.i2l, 1) := by decide +kernel
theorem dX7_holds_19 : decode cX7_holds 19 = .ok (.lcmp, 1) := by decide +kernel
theorem dX7_holds_20 : decode cX7_holds 20 = .ok (.ifCond .gt 7, 3) := by decide +kernel
theorem dX7_holds_23 : decode cX7_holds 23 = .ok (.iconst 1, 1) := by decide +kernel
theorem dX7_holds_24 : decode cX7_holds 24 = .ok (.goto 4, 3) := by decide +kernel
theorem dX7_holds_27 : decode cX7_holds 27 = .ok (.iconst 0, 1) := by decide +kernel
theorem dX7_holds_28 : decode cX7_holds 28 = .ok (.ireturn, 1) := by decide +kernel
theorem dX7_become_0 : decode cX7_become 0 = .ok (.aload_n 0, 1) := by decide +kernel
theorem dX7_become_1 : decode cX7_become 1 = .ok (.iload_n 1, 1) := by decide +kernel
theorem dX7_become_2 : decode cX7_become 2 = .ok (.invokevirtual 29, 3) := by decide +kernel
theorem dX7_become_5 : decode cX7_become 5 = .ok (.ifCond .eq 10, 3) := by decide +kernel
theorem dX7_become_8 : decode cX7_become 8 = .ok (.aload_n 0, 1) := by decide +kernel
theorem dX7_become_9 : decode cX7_become 9 = .ok (.getfield 13, 3) := by decide +kernel
theorem dX7_become_12 : decode cX7_become 12 = .ok (.iload_n 1, 1) := by decide +kernel
theorem dX7_become_13 : decode cX7_become 13 = .ok (.iload_n 2, 1) := by decide +kernel
theorem dX7_become_14 : decode cX7_become 14 = .ok (.iastore, 1) := by decide +kernel
theorem dX7_become_15 : decode cX7_become 15 = .ok (.return_, 1) := by decide +kernel
theorem dX7_drop_0 : decode cX7_drop 0 = .ok (.aload_n 0, 1) := by decide +kernel
theorem dX7_drop_1 : decode cX7_drop 1 = .ok (.iload_n 1, 1) := by decide +kernel
theorem dX7_drop_2 : decode cX7_drop 2 = .ok (.iconst (-1), 1) := by decide +kernel
theorem dX7_drop_3 : decode cX7_drop 3 = .ok (.invokevirtual 33, 3) := by decide +kernel
theorem dX7_drop_6 : decode cX7_drop 6 = .ok (.return_, 1) := by decide +kernel
theorem dX7_dropAll_0 : decode cX7_dropAll 0 = .ok (.aload_n 0, 1) := by decide +kernel
theorem dX7_dropAll_1 : decode cX7_dropAll 1 = .ok (.getfield 13, 3) := by decide +kernel
theorem dX7_dropAll_4 : decode cX7_dropAll 4 = .ok (.iconst (-1), 1) := by decide +kernel
theorem dX7_dropAll_5 : decode cX7_dropAll 5 = .ok (.invokestatic 19, 3) := by decide +kernel
theorem dX7_dropAll_8 : decode cX7_dropAll 8 = .ok (.return_, 1) := by decide +kernel
theorem dX7_countThere_0 : decode cX7_countThere 0 = .ok (.iconst 0, 1) := by decide +kernel
theorem dX7_countThere_1 : decode cX7_countThere 1 = .ok (.istore_n 1, 1) := by decide +kernel
theorem dX7_countThere_2 : decode cX7_countThere 2 = .ok (.aload_n 0, 1) := by decide +kernel
theorem dX7_countThere_3 : decode cX7_countThere 3 = .ok (.getfield 13, 3) := by decide +kernel
theorem dX7_countThere_6 : decode cX7_countThere 6 = .ok (.astore_n 2, 1) := by decide +kernel
theorem dX7_countThere_7 : decode cX7_countThere 7 = .ok (.aload_n 2, 1) := by decide +kernel
theorem dX7_countThere_8 : decode cX7_countThere 8 = .ok (.arraylength, 1) := by decide +kernel
theorem dX7_countThere_9 : decode cX7_countThere 9 = .ok (.istore_n 3, 1) := by decide +kernel
theorem dX7_countThere_10 : decode cX7_countThere 10 = .ok (.iconst 0, 1) := by decide +kernel
theorem dX7_countThere_11 : decode cX7_countThere 11 = .ok (.istore 4, 2) := by decide +kernel
theorem dX7_countThere_13 : decode cX7_countThere 13 = .ok (.iload 4, 2) := by decide +kernel
theorem dX7_countThere_15 : decode cX7_countThere 15 = .ok (.iload_n 3, 1) := by decide +kernel
theorem dX7_countThere_16 : decode cX7_countThere 16 = .ok (.if_icmp .ge 24, 3) := by decide +kernel
theorem dX7_countThere_19 : decode cX7_countThere 19 = .ok (.aload_n 2, 1) := by decide +kernel
theorem dX7_countThere_20 : decode cX7_countThere 20 = .ok (.iload 4, 2) := by decide +kernel
theorem dX7_countThere_22 : decode cX7_countThere 22 = .ok (.iaload, 1) := by decide +kernel
theorem dX7_countThere_23 : decode cX7_countThere 23 = .ok (.istore 5, 2) := by decide +kernel
theorem dX7_countThere_25 : decode cX7_countThere 25 = .ok (.iload 5, 2) := by decide +kernel
theorem dX7_countThere_27 : decode cX7_countThere 27 = .ok (.iconst (-1), 1) := by decide +kernel
theorem dX7_countThere_28 : decode cX7_countThere 28 = .ok (.if_icmp .eq 6, 3) := by decide +kernel
theorem dX7_countThere_31 : decode cX7_countThere 31 = .ok (.iinc 1 1, 3) := by decide +kernel
theorem dX7_countThere_34 : decode cX7_countThere 34 = .ok (.iinc 4 1, 3) := by decide +kernel
theorem dX7_countThere_37 : decode cX7_countThere 37 = .ok (.goto (-24), 3) := by decide +kernel
theorem dX7_countThere_40 : decode cX7_countThere 40 = .ok (.iload_n 1, 1) := by decide +kernel
theorem dX7_countThere_41 : decode cX7_countThere 41 = .ok (.ireturn, 1) := by decide +kernel
theorem dX8_init_0 : decode cX8_init 0 = .ok (.aload_n 0, 1) := by decide +kernel
theorem dX8_init_1 : decode cX8_init 1 = .ok (.invokespecial 3, 3) := by decide +kernel
theorem dX8_init_4 : decode cX8_init 4 = .ok (.aload_n 0, 1) := by decide +kernel
theorem dX8_init_5 : decode cX8_init 5 = .ok (.iconst 4, 1) := by decide +kernel
theorem dX8_init_6 : decode cX8_init 6 = .ok (.newarray .int, 2) := by decide +kernel
theorem dX8_init_8 : decode cX8_init 8 = .ok (.putfield 9, 3) := by decide +kernel
theorem dX8_init_11 : decode cX8_init 11 = .ok (.aload_n 0, 1) := by decide +kernel
theorem dX8_init_12 : decode cX8_init 12 = .ok (.bipush 8, 2) := by decide +kernel
theorem dX8_init_14 : decode cX8_init 14 = .ok (.newarray .int, 2) := by decide +kernel
theorem dX8_init_16 : decode cX8_init 16 = .ok (.putfield 15, 3) := by decide +kernel
theorem dX8_init_19 : decode cX8_init 19 = .ok (.aload_n 0, 1) := by decide +kernel
theorem dX8_init_20 : decode cX8_init 20 = .ok (.aload_n 1, 1) := by decide +kernel
theorem dX8_init_21 : decode cX8_init 21 = .ok (.putfield 18, 3) := by decide +kernel
theorem dX8_init_24 : decode cX8_init 24 = .ok (.return_, 1) := by decide +kernel
theorem dX8_heardWith_0 : decode cX8_heardWith 0 = .ok (.aload_n 0, 1) := by decide +kernel
theorem dX8_heardWith_1 : decode cX8_heardWith 1 = .ok (.getfield 9, 3) := by decide +kernel
theorem dX8_heardWith_4 : decode cX8_heardWith 4 = .ok (.iconst 0, 1) := by decide +kernel
theorem dX8_heardWith_5 : decode cX8_heardWith 5 = .ok (.invokestatic 22, 3) := by decide +kernel
theorem dX8_heardWith_8 : decode cX8_heardWith 8 = .ok (.iload_n 2, 1) := by decide +kernel
theorem dX8_heardWith_9 : decode cX8_heardWith 9 = .ok (.ifCond .lt 19, 3) := by decide +kernel
theorem dX8_heardWith_12 : decode cX8_heardWith 12 = .ok (.iload_n 2, 1) := by decide +kernel
theorem dX8_heardWith_13 : decode cX8_heardWith 13 = .ok (.aload_n 0, 1) := by decide +kernel
theorem dX8_heardWith_14 : decode cX8_heardWith 14 = .ok (.getfield 9, 3) := by decide +kernel
theorem dX8_heardWith_17 : decode cX8_heardWith 17 = .ok (.arraylength, 1) := by decide +kernel
theorem dX8_heardWith_18 : decode cX8_heardWith 18 = .ok (.if_icmp .ge 10, 3) := by decide +kernel
theorem dX8_heardWith_21 : decode cX8_heardWith 21 = .ok (.aload_n 0, 1) := by decide +kernel
theorem dX8_heardWith_22 : decode cX8_heardWith 22 = .ok (.getfield 9, 3) := by decide +kernel
theorem dX8_heardWith_25 : decode cX8_heardWith 25 = .ok (.iload_n 2, 1) := by decide +kernel
theorem dX8_heardWith_26 : decode cX8_heardWith 26 = .ok (.iload_n 3, 1) := by decide +kernel
theorem dX8_heardWith_27 : decode cX8_heardWith 27 = .ok (.iastore, 1) := by decide +kernel
theorem dX8_heardWith_28 : decode cX8_heardWith 28 = .ok (.aload_n 0, 1) := by decide +kernel
theorem dX8_heardWith_29 : decode cX8_heardWith 29 = .ok (.getfield 18, 3) := by decide +kernel
theorem dX8_heardWith_32 : decode cX8_heardWith 32 = .ok (.iload_n 1, 1) := by decide +kernel
theorem dX8_heardWith_33 : decode cX8_heardWith 33 = .ok (.aload_n 0, 1) := by decide +kernel
theorem dX8_heardWith_34 : decode cX8_heardWith 34 = .ok (.getfield 9, 3) := by decide +kernel
theorem dX8_heardWith_37 : decode cX8_heardWith 37 = .ok (.invokevirtual 28, 3) := by decide +kernel
theorem dX8_heardWith_40 : decode cX8_heardWith 40 = .ok (.ireturn, 1) := by decide +kernel
theorem dX8_unlike_0 : decode cX8_unlike 0 = .ok (.lconst 0, 1) := by decide +kernel
theorem dX8_unlike_1 : decode cX8_unlike 1 = .ok (.lstore_n 2, 1) := by decide +kernel
theorem dX8_unlike_2 : decode cX8_unlike 2 = .ok (.aload_n 0, 1) := by decide +kernel
theorem dX8_unlike_3 : decode cX8_unlike 3 = .ok (.getfield 18, 3) := by decide +kernel
theorem dX8_unlike_6 : decode cX8_unlike 6 = .ok (.getfield 34, 3) := by decide +kernel
theorem dX8_unlike_9 : decode cX8_unlike 9 = .ok (.invokestatic 38, 3) := by decide +kernel
theorem dX8_unlike_12 : decode cX8_unlike 12 = .ok (.istore 4, 2) := by decide +kernel
theorem dX8_unlike_14 : decode cX8_unlike 14 = .ok (.iconst 0, 1) := by decide +kernel
theorem dX8_unlike_15 : decode cX8_unlike 15 = .ok (.istore 5, 2) := by decide +kernel
theorem dX8_unlike_17 : decode cX8_unlike 17 = .ok (.iload 5, 2) := by decide +kernel
theorem dX8_unlike_19 : decode cX8_unlike 19 = .ok (.iload 4, 2) := by decide +kernel
theorem dX8_unlike_21 : decode cX8_unlike 21 = .ok (.if_icmp .ge 35, 3) := by decide +kernel
theorem dX8_unlike_24 : decode cX8_unlike 24 = .ok (.iload 5, 2) := by decide +kernel
theorem dX8_unlike_26 : decode cX8_unlike 26 = .ok (.aload_n 0, 1) := by decide +kernel
theorem dX8_unlike_27 : decode cX8_unlike 27 = .ok (.getfield 9, 3) := by decide +kernel
theorem dX8_unlike_30 : decode cX8_unlike 30 = .ok (.invokestatic 42, 3) := by decide +kernel
theorem dX8_unlike_33 : decode cX8_unlike 33 = .ok (.lload_n 2, 1) := by decide +kernel
theorem dX8_unlike_34 : decode cX8_unlike 34 = .ok (.lconst 1, 1) := by decide +kernel
theorem dX8_unlike_35 : decode cX8_unlike 35 = .ok (.aload_n 0, 1) := by decide +kernel
theorem dX8_unlike_36 : decode cX8_unlike 36 = .ok (.getfield 18, 3) := by decide +kernel
theorem dX8_unlike_39 : decode cX8_unlike 39 = .ok (.iload_n 1, 1) := by decide +kernel
theorem dX8_unlike_40 : decode cX8_unlike 40 = .ok (.aload_n 0, 1) := by decide +kernel
theorem dX8_unlike_41 : decode cX8_unlike 41 = .ok (.getfield 9, 3) := by decide +kernel
theorem dX8_unlike_44 : decode cX8_unlike 44 = .ok (.invokevirtual 28, 3) := by decide +kernel
theorem dX8_unlike_47 : decode cX8_unlike 47 = .ok (.lshl, 1) := by decide +kernel
theorem dX8_unlike_48 : decode cX8_unlike 48 = .ok (.lor, 1) := by decide +kernel
theorem dX8_unlike_49 : decode cX8_unlike 49 = .ok (.lstore_n 2, 1) := by decide +kernel
theorem dX8_unlike_50 : decode cX8_unlike 50 = .ok (.iinc 5 1, 3) := by decide +kernel
theorem dX8_unlike_53 : decode cX8_unlike 53 = .ok (.goto (-36), 3) := by decide +kernel
theorem dX8_unlike_56 : decode cX8_unlike 56 = .ok (.lload_n 2, 1) := by decide +kernel
theorem dX8_unlike_57 : decode cX8_unlike 57 = .ok (.invokestatic 46, 3) := by decide +kernel
theorem dX8_unlike_60 : decode cX8_unlike 60 = .ok (.ireturn, 1) := by decide +kernel
theorem dX8_hiding_0 : decode cX8_hiding 0 = .ok (.iconst 0, 1) := by decide +kernel
theorem dX8_hiding_1 : decode cX8_hiding 1 = .ok (.istore_n 3, 1) := by decide +kernel
theorem dX8_hiding_2 : decode cX8_hiding 2 = .ok (.iconst 0, 1) := by decide +kernel
theorem dX8_hiding_3 : decode cX8_hiding 3 = .ok (.istore 4, 2) := by decide +kernel
theorem dX8_hiding_5 : decode cX8_hiding 5 = .ok (.iload 4, 2) := by decide +kernel
theorem dX8_hiding_7 : decode cX8_hiding 7 = .ok (.aload_n 0, 1) := by decide +kernel
theorem dX8_hiding_8 : decode cX8_hiding 8 = .ok (.getfield 18, 3) := by decide +kernel
theorem dX8_hiding_11 : decode cX8_hiding 11 = .ok (.getfield 52, 3) := by decide +kernel
theorem dX8_hiding_14 : decode cX8_hiding 14 = .ok (.if_icmp .ge 36, 3) := by decide +kernel
theorem dX8_hiding_17 : decode cX8_hiding 17 = .ok (.aload_n 0, 1) := by decide +kernel
theorem dX8_hiding_18 : decode cX8_hiding 18 = .ok (.iload 4, 2) := by decide +kernel
theorem dX8_hiding_20 : decode cX8_hiding 20 = .ok (.iload_n 1, 1) := by decide +kernel
theorem dX8_hiding_21 : decode cX8_hiding 21 = .ok (.iload_n 2, 1) := by decide +kernel
theorem dX8_hiding_22 : decode cX8_hiding 22 = .ok (.invokevirtual 55, 3) := by decide +kernel
theorem dX8_hiding_25 : decode cX8_hiding 25 = .ok (.aload_n 0, 1) := by decide +kernel
theorem dX8_hiding_26 : decode cX8_hiding 26 = .ok (.getfield 18, 3) := by decide +kernel
theorem dX8_hiding_29 : decode cX8_hiding 29 = .ok (.iload 4, 2) := by decide +kernel
theorem dX8_hiding_31 : decode cX8_hiding 31 = .ok (.invokevirtual 59, 3) := by decide +kernel
theorem dX8_hiding_34 : decode cX8_hiding 34 = .ok (.if_icmp .ne 10, 3) := by decide +kernel
theorem dX8_hiding_37 : decode cX8_hiding 37 = .ok (.iload_n 3, 1) := by decide +kernel
theorem dX8_hiding_38 : decode cX8_hiding 38 = .ok (.iconst 1, 1) := by decide +kernel
theorem dX8_hiding_39 : decode cX8_hiding 39 = .ok (.iload 4, 2) := by decide +kernel
theorem dX8_hiding_41 : decode cX8_hiding 41 = .ok (.ishl, 1) := by decide +kernel
theorem dX8_hiding_42 : decode cX8_hiding 42 = .ok (.ior, 1) := by decide +kernel
theorem dX8_hiding_43 : decode cX8_hiding 43 = .ok (.istore_n 3, 1) := by decide +kernel
theorem dX8_hiding_44 : decode cX8_hiding 44 = .ok (.iinc 4 1, 3) := by decide +kernel
theorem dX8_hiding_47 : decode cX8_hiding 47 = .ok (.goto (-42), 3) := by decide +kernel
theorem dX8_hiding_50 : decode cX8_hiding 50 = .ok (.iload_n 3, 1) := by decide +kernel
theorem dX8_hiding_51 : decode cX8_hiding 51 = .ok (.ireturn, 1) := by decide +kernel
theorem dX8_learnHiding_0 : decode cX8_learnHiding 0 = .ok (.aload_n 0, 1) := by decide +kernel
theorem dX8_learnHiding_1 : decode cX8_learnHiding 1 = .ok (.getfield 15, 3) := by decide +kernel
theorem dX8_learnHiding_4 : decode cX8_learnHiding 4 = .ok (.iconst 0, 1) := by decide +kernel
theorem dX8_learnHiding_5 : decode cX8_learnHiding 5 = .ok (.invokestatic 22, 3) := by decide +kernel
theorem dX8_learnHiding_8 : decode cX8_learnHiding 8 = .ok (.iconst 0, 1) := by decide +kernel
theorem dX8_learnHiding_9 : decode cX8_learnHiding 9 = .ok (.istore_n 1, 1) := by decide +kernel
theorem dX8_learnHiding_10 : decode cX8_learnHiding 10 = .ok (.iload_n 1, 1) := by decide +kernel
theorem dX8_learnHiding_11 : decode cX8_learnHiding 11 = .ok (.aload_n 0, 1) := by decide +kernel
theorem dX8_learnHiding_12 : decode cX8_learnHiding 12 = .ok (.getfield 18, 3) := by decide +kernel
theorem dX8_learnHiding_15 : decode cX8_learnHiding 15 = .ok (.getfield 34, 3) := by decide +kernel
theorem dX8_learnHiding_18 : decode cX8_learnHiding 18 = .ok (.if_icmp .ge 39, 3) := by decide +kernel
theorem dX8_learnHiding_21 : decode cX8_learnHiding 21 = .ok (.aload_n 0, 1) := by decide +kernel
theorem dX8_learnHiding_22 : decode cX8_learnHiding 22 = .ok (.getfield 15, 3) := by decide +kernel
theorem dX8_learnHiding_25 : decode cX8_learnHiding 25 = .ok (.iconst 2, 1) := by decide +kernel
theorem dX8_learnHiding_26 : decode cX8_learnHiding 26 = .ok (.iload_n 1, 1) := by decide +kernel
theorem dX8_learnHiding_27 : decode cX8_learnHiding 27 = .ok (.imul, 1) := by decide +kernel
theorem dX8_learnHiding_28 : decode cX8_learnHiding 28 = .ok (.aload_n 0, 1) := by decide +kernel
theorem dX8_learnHiding_29 : decode cX8_learnHiding 29 = .ok (.iload_n 1, 1) := by decide +kernel
theorem dX8_learnHiding_30 : decode cX8_learnHiding 30 = .ok (.iconst (-1), 1) := by decide +kernel
theorem dX8_learnHiding_31 : decode cX8_learnHiding 31 = .ok (.invokevirtual 62, 3) := by decide +kernel
theorem dX8_learnHiding_34 : decode cX8_learnHiding 34 = .ok (.iastore, 1) := by decide +kernel
theorem dX8_learnHiding_35 : decode cX8_learnHiding 35 = .ok (.aload_n 0, 1) := by decide +kernel
theorem dX8_learnHiding_36 : decode cX8_learnHiding 36 = .ok (.getfield 15, 3) := by decide +kernel
theorem dX8_learnHiding_39 : decode cX8_learnHiding 39 = .ok (.iconst 2, 1) := by decide +kernel
theorem dX8_learnHiding_40 : decode cX8_learnHiding 40 = .ok (.iload_n 1, 1) := by decide +kernel
theorem dX8_learnHiding_41 : decode cX8_learnHiding 41 = .ok (.imul, 1) := by decide +kernel
theorem dX8_learnHiding_42 : decode cX8_learnHiding 42 = .ok (.iconst 1, 1) := by decide +kernel
theorem dX8_learnHiding_43 : decode cX8_learnHiding 43 = .ok (.iadd, 1) := by decide +kernel
theorem dX8_learnHiding_44 : decode cX8_learnHiding 44 = .ok (.aload_n 0, 1) := by decide +kernel
theorem dX8_learnHiding_45 : decode cX8_learnHiding 45 = .ok (.iload_n 1, 1) := by decide +kernel
theorem dX8_learnHiding_46 : decode cX8_learnHiding 46 = .ok (.iconst 1, 1) := by decide +kernel
theorem dX8_learnHiding_47 : decode cX8_learnHiding 47 = .ok (.invokevirtual 62, 3) := by decide +kernel
theorem dX8_learnHiding_50 : decode cX8_learnHiding 50 = .ok (.iastore, 1) := by decide +kernel
theorem dX8_learnHiding_51 : decode cX8_learnHiding 51 = .ok (.iinc 1 1, 3) := by decide +kernel
theorem dX8_learnHiding_54 : decode cX8_learnHiding 54 = .ok (.goto (-44), 3) := by decide +kernel
theorem dX8_learnHiding_57 : decode cX8_learnHiding 57 = .ok (.return_, 1) := by decide +kernel
theorem dX8_leastTelling_0 : decode cX8_leastTelling 0 = .ok (.aload_n 0, 1) := by decide +kernel
theorem dX8_leastTelling_1 : decode cX8_leastTelling 1 = .ok (.getfield 15, 3) := by decide +kernel
theorem dX8_leastTelling_4 : decode cX8_leastTelling 4 = .ok (.iconst 0, 1) := by decide +kernel
theorem dX8_leastTelling_5 : decode cX8_leastTelling 5 = .ok (.aload_n 0, 1) := by decide +kernel
theorem dX8_leastTelling_6 : decode cX8_leastTelling 6 = .ok (.getfield 18, 3) := by decide +kernel
theorem dX8_leastTelling_9 : decode cX8_leastTelling 9 = .ok (.getfield 52, 3) := by decide +kernel
theorem dX8_leastTelling_12 : decode cX8_leastTelling 12 = .ok (.iload_n 1, 1) := by decide +kernel
theorem dX8_leastTelling_13 : decode cX8_leastTelling 13 = .ok (.invokestatic 66, 3) := by decide +kernel
theorem dX8_leastTelling_16 : decode cX8_leastTelling 16 = .ok (.ireturn, 1) := by decide +kernel
theorem dX8_leastSet_0 : decode cX8_leastSet 0 = .ok (.iload_n 3, 1) := by decide +kernel
theorem dX8_leastSet_1 : decode cX8_leastSet 1 = .ok (.ifCond .gt 18, 3) := by decide +kernel
theorem dX8_leastSet_4 : decode cX8_leastSet 4 = .ok (.aload_n 0, 1) := by decide +kernel
theorem dX8_leastSet_5 : decode cX8_leastSet 5 = .ok (.iload_n 1, 1) := by decide +kernel
theorem dX8_leastSet_6 : decode cX8_leastSet 6 = .ok (.invokestatic 70, 3) := by decide +kernel
theorem dX8_leastSet_9 : decode cX8_leastSet 9 = .ok (.ifCond .eq 7, 3) := by decide +kernel
theorem dX8_leastSet_12 : decode cX8_leastSet 12 = .ok (.iload_n 1, 1) := by decide +kernel
theorem dX8_leastSet_13 : decode cX8_leastSet 13 = .ok (.goto 5, 3) := by decide +kernel
theorem dX8_leastSet_16 : decode cX8_leastSet 16 = .ok (.bipush (-9), 2) := by decide +kernel
theorem dX8_leastSet_18 : decode cX8_leastSet 18 = .ok (.ireturn, 1) := by decide +kernel
theorem dX8_leastSet_19 : decode cX8_leastSet 19 = .ok (.iconst 0, 1) := by decide +kernel
theorem dX8_leastSet_20 : decode cX8_leastSet 20 = .ok (.istore 4, 2) := by decide +kernel
theorem dX8_leastSet_22 : decode cX8_leastSet 22 = .ok (.iload 4, 2) := by decide +kernel
theorem dX8_leastSet_24 : decode cX8_leastSet 24 = .ok (.iload_n 2, 1) := by decide +kernel
theorem dX8_leastSet_25 : decode cX8_leastSet 25 = .ok (.if_icmp .ge 36, 3) := by decide +kernel
theorem dX8_leastSet_28 : decode cX8_leastSet 28 = .ok (.aload_n 0, 1) := by decide +kernel
theorem dX8_leastSet_29 : decode cX8_leastSet 29 = .ok (.iload_n 1, 1) := by decide +kernel
theorem dX8_leastSet_30 : decode cX8_leastSet 30 = .ok (.iconst 1, 1) := by decide +kernel
theorem dX8_leastSet_31 : decode cX8_leastSet 31 = .ok (.iload 4, 2) := by decide +kernel
theorem dX8_leastSet_33 : decode cX8_leastSet 33 = .ok (.ishl, 1) := by decide +kernel
theorem dX8_leastSet_34 : decode cX8_leastSet 34 = .ok (.ior, 1) := by decide +kernel
theorem dX8_leastSet_35 : decode cX8_leastSet 35 = .ok (.iload 4, 2) := by decide +kernel
theorem dX8_leastSet_37 : decode cX8_leastSet 37 = .ok (.iload_n 3, 1) := by decide +kernel
theorem dX8_leastSet_38 : decode cX8_leastSet 38 = .ok (.iconst 1, 1) := by decide +kernel
theorem dX8_leastSet_39 : decode cX8_leastSet 39 = .ok (.isub, 1) := by decide +kernel
theorem dX8_leastSet_40 : decode cX8_leastSet 40 = .ok (.invokestatic 66, 3) := by decide +kernel
theorem dX8_leastSet_43 : decode cX8_leastSet 43 = .ok (.istore 5, 2) := by decide +kernel
theorem dX8_leastSet_45 : decode cX8_leastSet 45 = .ok (.iload 5, 2) := by decide +kernel
theorem dX8_leastSet_47 : decode cX8_leastSet 47 = .ok (.bipush (-9), 2) := by decide +kernel
theorem dX8_leastSet_49 : decode cX8_leastSet 49 = .ok (.if_icmp .eq 6, 3) := by decide +kernel
theorem dX8_leastSet_52 : decode cX8_leastSet 52 = .ok (.iload 5, 2) := by decide +kernel
theorem dX8_leastSet_54 : decode cX8_leastSet 54 = .ok (.ireturn, 1) := by decide +kernel
theorem dX8_leastSet_55 : decode cX8_leastSet 55 = .ok (.iinc 4 1, 3) := by decide +kernel
theorem dX8_leastSet_58 : decode cX8_leastSet 58 = .ok (.goto (-36), 3) := by decide +kernel
theorem dX8_leastSet_61 : decode cX8_leastSet 61 = .ok (.bipush (-9), 2) := by decide +kernel
theorem dX8_leastSet_63 : decode cX8_leastSet 63 = .ok (.ireturn, 1) := by decide +kernel
theorem dX8_tellsAll_0 : decode cX8_tellsAll 0 = .ok (.aload_n 0, 1) := by decide +kernel
theorem dX8_tellsAll_1 : decode cX8_tellsAll 1 = .ok (.astore_n 2, 1) := by decide +kernel
theorem dX8_tellsAll_2 : decode cX8_tellsAll 2 = .ok (.aload_n 2, 1) := by decide +kernel
theorem dX8_tellsAll_3 : decode cX8_tellsAll 3 = .ok (.arraylength, 1) := by decide +kernel
theorem dX8_tellsAll_4 : decode cX8_tellsAll 4 = .ok (.istore_n 3, 1) := by decide +kernel
theorem dX8_tellsAll_5 : decode cX8_tellsAll 5 = .ok (.iconst 0, 1) := by decide +kernel
theorem dX8_tellsAll_6 : decode cX8_tellsAll 6 = .ok (.istore 4, 2) := by decide +kernel
theorem dX8_tellsAll_8 : decode cX8_tellsAll 8 = .ok (.iload 4, 2) := by decide +kernel
theorem dX8_tellsAll_10 : decode cX8_tellsAll 10 = .ok (.iload_n 3, 1) := by decide +kernel
theorem dX8_tellsAll_11 : decode cX8_tellsAll 11 = .ok (.if_icmp .ge 26, 3) := by decide +kernel
theorem dX8_tellsAll_14 : decode cX8_tellsAll 14 = .ok (.aload_n 2, 1) := by decide +kernel
theorem dX8_tellsAll_15 : decode cX8_tellsAll 15 = .ok (.iload 4, 2) := by decide +kernel
theorem dX8_tellsAll_17 : decode cX8_tellsAll 17 = .ok (.iaload, 1) := by decide +kernel
theorem dX8_tellsAll_18 : decode cX8_tellsAll 18 = .ok (.istore 5, 2) := by decide +kernel
theorem dX8_tellsAll_20 : decode cX8_tellsAll 20 = .ok (.iload_n 1, 1) := by decide +kernel
theorem dX8_tellsAll_21 : decode cX8_tellsAll 21 = .ok (.iload 5, 2) := by decide +kernel
theorem dX8_tellsAll_23 : decode cX8_tellsAll 23 = .ok (.iconst (-1), 1) := by decide +kernel
theorem dX8_tellsAll_24 : decode cX8_tellsAll 24 = .ok (.ixor, 1) := by decide +kernel
theorem dX8_tellsAll_25 : decode cX8_tellsAll 25 = .ok (.iand, 1) := by decide +kernel
theorem dX8_tellsAll_26 : decode cX8_tellsAll 26 = .ok (.ifCond .ne 5, 3) := by decide +kernel
theorem dX8_tellsAll_29 : decode cX8_tellsAll 29 = .ok (.iconst 0, 1) := by decide +kernel
theorem dX8_tellsAll_30 : decode cX8_tellsAll 30 = .ok (.ireturn, 1) := by decide +kernel
theorem dX8_tellsAll_31 : decode cX8_tellsAll 31 = .ok (.iinc 4 1, 3) := by decide +kernel
theorem dX8_tellsAll_34 : decode cX8_tellsAll 34 = .ok (.goto (-26), 3) := by decide +kernel
theorem dX8_tellsAll_37 : decode cX8_tellsAll 37 = .ok (.iconst 1, 1) := by decide +kernel
theorem dX8_tellsAll_38 : decode cX8_tellsAll 38 = .ok (.ireturn, 1) := by decide +kernel
theorem dX9_init_0 : decode cX9_init 0 = .ok (.aload_n 0, 1) := by decide +kernel
theorem dX9_init_1 : decode cX9_init 1 = .ok (.invokespecial 1, 3) := by decide +kernel
theorem dX9_init_4 : decode cX9_init 4 = .ok (.aload_n 0, 1) := by decide +kernel
theorem dX9_init_5 : decode cX9_init 5 = .ok (.new 7, 3) := by decide +kernel
theorem dX9_init_8 : decode cX9_init 8 = .ok (.dup, 1) := by decide +kernel
theorem dX9_init_9 : decode cX9_init 9 = .ok (.iconst 4, 1) := by decide +kernel
theorem dX9_init_10 : decode cX9_init 10 = .ok (.invokespecial 11, 3) := by decide +kernel
theorem dX9_init_13 : decode cX9_init 13 = .ok (.putfield 14, 3) := by decide +kernel
theorem dX9_init_16 : decode cX9_init 16 = .ok (.aload_n 0, 1) := by decide +kernel
theorem dX9_init_17 : decode cX9_init 17 = .ok (.iconst 4, 1) := by decide +kernel
theorem dX9_init_18 : decode cX9_init 18 = .ok (.bipush 80, 2) := by decide +kernel
theorem dX9_init_20 : decode cX9_init 20 = .ok (.multianewarray 18 2, 4) := by decide +kernel
theorem dX9_init_24 : decode cX9_init 24 = .ok (.putfield 20, 3) := by decide +kernel
theorem dX9_init_27 : decode cX9_init 27 = .ok (.return_, 1) := by decide +kernel
theorem dX9_make_0 : decode cX9_make 0 = .ok (.aload_n 0, 1) := by decide +kernel
theorem dX9_make_1 : decode cX9_make 1 = .ok (.getfield 14, 3) := by decide +kernel
theorem dX9_make_4 : decode cX9_make 4 = .ok (.iload_n 1, 1) := by decide +kernel
theorem dX9_make_5 : decode cX9_make 5 = .ok (.invokevirtual 23, 3) := by decide +kernel
theorem dX9_make_8 : decode cX9_make 8 = .ok (.ifCond .eq 13, 3) := by decide +kernel
theorem dX9_make_11 : decode cX9_make 11 = .ok (.iload_n 2, 1) := by decide +kernel
theorem dX9_make_12 : decode cX9_make 12 = .ok (.ifCond .lt 9, 3) := by decide +kernel
theorem dX9_make_15 : decode cX9_make 15 = .ok (.iload_n 2, 1) := by decide +kernel
theorem dX9_make_16 : decode cX9_make 16 = .ok (.bipush 80, 2) := by decide +kernel
theorem dX9_make_18 : decode cX9_make 18 = .ok (.if_icmp .le 4, 3) := by decide +kernel
theorem dX9_make_21 : decode cX9_make 21 = .ok (.return_, 1) := by decide +kernel
theorem dX9_make_22 : decode cX9_make 22 = .ok (.aload_n 0, 1) := by decide +kernel
theorem dX9_make_23 : decode cX9_make 23 = .ok (.getfield 14, 3) := by decide +kernel
theorem dX9_make_26 : decode cX9_make 26 = .ok (.iload_n 1, 1) := by decide +kernel
theorem dX9_make_27 : decode cX9_make 27 = .ok (.iload_n 2, 1) := by decide +kernel
theorem dX9_make_28 : decode cX9_make 28 = .ok (.invokevirtual 27, 3) := by decide +kernel
theorem dX9_make_31 : decode cX9_make 31 = .ok (.aload_n 0, 1) := by decide +kernel
theorem dX9_make_32 : decode cX9_make 32 = .ok (.getfield 20, 3) := by decide +kernel
theorem dX9_make_35 : decode cX9_make 35 = .ok (.iload_n 1, 1) := by decide +kernel
theorem dX9_make_36 : decode cX9_make 36 = .ok (.aaload, 1) := by decide +kernel
theorem dX9_make_37 : decode cX9_make 37 = .ok (.bipush 32, 2) := by decide +kernel
theorem dX9_make_39 : decode cX9_make 39 = .ok (.invokestatic 31, 3) := by decide +kernel
theorem dX9_make_42 : decode cX9_make 42 = .ok (.return_, 1) := by decide +kernel
theorem dX9_get_0 : decode cX9_get 0 = .ok (.iload_n 1, 1) := by decide +kernel
theorem dX9_get_1 : decode cX9_get 1 = .ok (.ifCond .lt 29, 3) := by decide +kernel
theorem dX9_get_4 : decode cX9_get 4 = .ok (.iload_n 1, 1) := by decide +kernel
theorem dX9_get_5 : decode cX9_get 5 = .ok (.iconst 4, 1) := by decide +kernel
theorem dX9_get_6 : decode cX9_get 6 = .ok (.if_icmp .ge 24, 3) := by decide +kernel
theorem dX9_get_9 : decode cX9_get 9 = .ok (.iload_n 2, 1) := by decide +kernel
theorem dX9_get_10 : decode cX9_get 10 = .ok (.ifCond .lt 20, 3) := by decide +kernel
theorem dX9_get_13 : decode cX9_get 13 = .ok (.iload_n 2, 1) := by decide +kernel
theorem dX9_get_14 : decode cX9_get 14 = .ok (.bipush 80, 2) := by decide +kernel
theorem dX9_get_16 : decode cX9_get 16 = .ok (.if_icmp .ge 14, 3) := by decide +kernel
theorem dX9_get_19 : decode cX9_get 19 = .ok (.aload_n 0, 1) := by decide +kernel
theorem dX9_get_20 : decode cX9_get 20 = .ok (.getfield 20, 3) := by decide +kernel
theorem dX9_get_23 : decode cX9_get 23 = .ok (.iload_n 1, 1) := by decide +kernel
theorem dX9_get_24 : decode cX9_get 24 = .ok (.aaload, 1) := by decide +kernel
theorem dX9_get_25 : decode cX9_get 25 = .ok (.iload_n 2, 1) := by decide +kernel
theorem dX9_get_26 : decode cX9_get 26 = .ok (.baload, 1) := by decide +kernel
theorem dX9_get_27 : decode cX9_get 27 = .ok (.goto 5, 3) := by decide +kernel
theorem dX9_get_30 : decode cX9_get 30 = .ok (.bipush 32, 2) := by decide +kernel
theorem dX9_get_32 : decode cX9_get 32 = .ok (.ireturn, 1) := by decide +kernel
theorem dX9_set_0 : decode cX9_set 0 = .ok (.aload_n 0, 1) := by decide +kernel
theorem dX9_set_1 : decode cX9_set 1 = .ok (.getfield 14, 3) := by decide +kernel
theorem dX9_set_4 : decode cX9_set 4 = .ok (.iload_n 1, 1) := by decide +kernel
theorem dX9_set_5 : decode cX9_set 5 = .ok (.iload_n 2, 1) := by decide +kernel
theorem dX9_set_6 : decode cX9_set 6 = .ok (.iconst 1, 1) := by decide +kernel
theorem dX9_set_7 : decode cX9_set 7 = .ok (.invokevirtual 37, 3) := by decide +kernel
theorem dX9_set_10 : decode cX9_set 10 = .ok (.ifCond .eq 13, 3) := by decide +kernel
theorem dX9_set_13 : decode cX9_set 13 = .ok (.aload_n 0, 1) := by decide +kernel
theorem dX9_set_14 : decode cX9_set 14 = .ok (.getfield 20, 3) := by decide +kernel
theorem dX9_set_17 : decode cX9_set 17 = .ok (.iload_n 1, 1) := by decide +kernel
theorem dX9_set_18 : decode cX9_set 18 = .ok (.aaload, 1) := by decide +kernel
theorem dX9_set_19 : decode cX9_set 19 = .ok (.iload_n 2, 1) := by decide +kernel
theorem dX9_set_20 : decode cX9_set 20 = .ok (.iload_n 3, 1) := by decide +kernel
theorem dX9_set_21 : decode cX9_set 21 = .ok (.i2b, 1) := by decide +kernel
theorem dX9_set_22 : decode cX9_set 22 = .ok (.bastore, 1) := by decide +kernel
theorem dX9_set_23 : decode cX9_set 23 = .ok (.return_, 1) := by decide +kernel
theorem dX9_digestOn_0 : decode cX9_digestOn 0 = .ok (.lload_n 1, 1) := by decide +kernel
theorem dX9_digestOn_1 : decode cX9_digestOn 1 = .ok (.lstore_n 3, 1) := by decide +kernel
theorem dX9_digestOn_2 : decode cX9_digestOn 2 = .ok (.iconst 0, 1) := by decide +kernel
theorem dX9_digestOn_3 : decode cX9_digestOn 3 = .ok (.istore 5, 2) := by decide +kernel
theorem dX9_digestOn_5 : decode cX9_digestOn 5 = .ok (.iload 5, 2) := by decide +kernel
theorem dX9_digestOn_7 : decode cX9_digestOn 7 = .ok (.iconst 4, 1) := by decide +kernel
theorem dX9_digestOn_8 : decode cX9_digestOn 8 = .ok (.if_icmp .ge 62, 3) := by decide +kernel
theorem dX9_digestOn_11 : decode cX9_digestOn 11 = .ok (.aload_n 0, 1) := by decide +kernel
theorem dX9_digestOn_12 : decode cX9_digestOn 12 = .ok (.getfield 14, 3) := by decide +kernel
theorem dX9_digestOn_15 : decode cX9_digestOn 15 = .ok (.iload 5, 2) := by decide +kernel
theorem dX9_digestOn_17 : decode cX9_digestOn 17 = .ok (.invokevirtual 41, 3) := by decide +kernel
theorem dX9_digestOn_20 : decode cX9_digestOn 20 = .ok (.istore 6, 2) := by decide +kernel
theorem dX9_digestOn_22 : decode cX9_digestOn 22 = .ok (.ldc2_w 45, 3) := by decide +kernel
theorem dX9_digestOn_25 : decode cX9_digestOn 25 = .ok (.lload_n 3, 1) := by decide +kernel
theorem dX9_digestOn_26 : decode cX9_digestOn 26 = .ok (.lmul, 1) := by decide +kernel
theorem dX9_digestOn_27 : decode cX9_digestOn 27 = .ok (.iload 6, 2) := by decide +kernel
theorem dX9_digestOn_29 : decode cX9_digestOn 29 = .ok (.i2l, 1) := by decide +kernel
theorem dX9_digestOn_30 : decode cX9_digestOn 30 = .ok (.ladd, 1) := by decide +kernel
theorem dX9_digestOn_31 : decode cX9_digestOn 31 = .ok (.lstore_n 3, 1) := by decide +kernel
theorem dX9_digestOn_32 : decode cX9_digestOn 32 = .ok (.iconst 0, 1) := by decide +kernel
theorem dX9_digestOn_33 : decode cX9_digestOn 33 = .ok (.istore 7, 2) := by decide +kernel
theorem dX9_digestOn_35 : decode cX9_digestOn 35 = .ok (.iload 7, 2) := by decide +kernel
theorem dX9_digestOn_37 : decode cX9_digestOn 37 = .ok (.iload 6, 2) := by decide +kernel
theorem dX9_digestOn_39 : decode cX9_digestOn 39 = .ok (.if_icmp .ge 25, 3) := by decide +kernel
theorem dX9_digestOn_42 : decode cX9_digestOn 42 = .ok (.ldc2_w 45, 3) := by decide +kernel
theorem dX9_digestOn_45 : decode cX9_digestOn 45 = .ok (.lload_n 3, 1) := by decide +kernel
theorem dX9_digestOn_46 : decode cX9_digestOn 46 = .ok (.lmul, 1) := by decide +kernel
theorem dX9_digestOn_47 : decode cX9_digestOn 47 = .ok (.aload_n 0, 1) := by decide +kernel
theorem dX9_digestOn_48 : decode cX9_digestOn 48 = .ok (.iload 5, 2) := by decide +kernel
theorem dX9_digestOn_50 : decode cX9_digestOn 50 = .ok (.iload 7, 2) := by decide +kernel
theorem dX9_digestOn_52 : decode cX9_digestOn 52 = .ok (.invokevirtual 47, 3) := by decide +kernel
theorem dX9_digestOn_55 : decode cX9_digestOn 55 = .ok (.i2l, 1) := by decide +kernel
theorem dX9_digestOn_56 : decode cX9_digestOn 56 = .ok (.ladd, 1) := by decide +kernel
theorem dX9_digestOn_57 : decode cX9_digestOn 57 = .ok (.lstore_n 3, 1) := by decide +kernel
theorem dX9_digestOn_58 : decode cX9_digestOn 58 = .ok (.iinc 7 1, 3) := by decide +kernel
theorem dX9_digestOn_61 : decode cX9_digestOn 61 = .ok (.goto (-26), 3) := by decide +kernel
theorem dX9_digestOn_64 : decode cX9_digestOn 64 = .ok (.iinc 5 1, 3) := by decide +kernel
theorem dX9_digestOn_67 : decode cX9_digestOn 67 = .ok (.goto (-62), 3) := by decide +kernel
theorem dX9_digestOn_70 : decode cX9_digestOn 70 = .ok (.lload_n 3, 1) := by decide +kernel
theorem dX9_digestOn_71 : decode cX9_digestOn 71 = .ok (.lreturn, 1) := by decide +kernel
theorem dX10_init_0 : decode cX10_init 0 = .ok (.aload_n 0, 1) := by decide +kernel
theorem dX10_init_1 : decode cX10_init 1 = .ok (.invokespecial 1, 3) := by decide +kernel
theorem dX10_init_4 : decode cX10_init 4 = .ok (.aload_n 0, 1) := by decide +kernel
theorem dX10_init_5 : decode cX10_init 5 = .ok (.new 7, 3) := by decide +kernel
theorem dX10_init_8 : decode cX10_init 8 = .ok (.dup, 1) := by decide +kernel
theorem dX10_init_9 : decode cX10_init 9 = .ok (.invokespecial 9, 3) := by decide +kernel
theorem dX10_init_12 : decode cX10_init 12 = .ok (.putfield 10, 3) := by decide +kernel
theorem dX10_init_15 : decode cX10_init 15 = .ok (.aload_n 0, 1) := by decide +kernel
theorem dX10_init_16 : decode cX10_init 16 = .ok (.new 16, 3) := by decide +kernel
theorem dX10_init_19 : decode cX10_init 19 = .ok (.dup, 1) := by decide +kernel
theorem dX10_init_20 : decode cX10_init 20 = .ok (.invokespecial 18, 3) := by decide +kernel
theorem dX10_init_23 : decode cX10_init 23 = .ok (.putfield 19, 3) := by decide +kernel
theorem dX10_init_26 : decode cX10_init 26 = .ok (.aload_n 0, 1) := by decide +kernel
theorem dX10_init_27 : decode cX10_init 27 = .ok (.new 23, 3) := by decide +kernel
theorem dX10_init_30 : decode cX10_init 30 = .ok (.dup, 1) := by decide +kernel
theorem dX10_init_31 : decode cX10_init 31 = .ok (.aload_n 0, 1) := by decide +kernel
theorem dX10_init_32 : decode cX10_init 32 = .ok (.getfield 19, 3) := by decide +kernel
theorem dX10_init_35 : decode cX10_init 35 = .ok (.invokespecial 25, 3) := by decide +kernel
theorem dX10_init_38 : decode cX10_init 38 = .ok (.putfield 28, 3) := by decide +kernel
theorem dX10_init_41 : decode cX10_init 41 = .ok (.aload_n 0, 1) := by decide +kernel
theorem dX10_init_42 : decode cX10_init 42 = .ok (.new 32, 3) := by decide +kernel
theorem dX10_init_45 : decode cX10_init 45 = .ok (.dup, 1) := by decide +kernel
theorem dX10_init_46 : decode cX10_init 46 = .ok (.invokespecial 34, 3) := by decide +kernel
theorem dX10_init_49 : decode cX10_init 49 = .ok (.putfield 35, 3) := by decide +kernel
theorem dX10_init_52 : decode cX10_init 52 = .ok (.aload_n 0, 1) := by decide +kernel
theorem dX10_init_53 : decode cX10_init 53 = .ok (.new 39, 3) := by decide +kernel
theorem dX10_init_56 : decode cX10_init 56 = .ok (.dup, 1) := by decide +kernel
theorem dX10_init_57 : decode cX10_init 57 = .ok (.aload_n 0, 1) := by decide +kernel
theorem dX10_init_58 : decode cX10_init 58 = .ok (.getfield 35, 3) := by decide +kernel
theorem dX10_init_61 : decode cX10_init 61 = .ok (.invokespecial 41, 3) := by decide +kernel
theorem dX10_init_64 : decode cX10_init 64 = .ok (.putfield 44, 3) := by decide +kernel
theorem dX10_init_67 : decode cX10_init 67 = .ok (.aload_n 0, 1) := by decide +kernel
theorem dX10_init_68 : decode cX10_init 68 = .ok (.new 48, 3) := by decide +kernel
theorem dX10_init_71 : decode cX10_init 71 = .ok (.dup, 1) := by decide +kernel
theorem dX10_init_72 : decode cX10_init 72 = .ok (.invokespecial 50, 3) := by decide +kernel
theorem dX10_init_75 : decode cX10_init 75 = .ok (.putfield 51, 3) := by decide +kernel
theorem dX10_init_78 : decode cX10_init 78 = .ok (.aload_n 0, 1) := by decide +kernel
theorem dX10_init_79 : decode cX10_init 79 = .ok (.new 55, 3) := by decide +kernel
theorem dX10_init_82 : decode cX10_init 82 = .ok (.dup, 1) := by decide +kernel
theorem dX10_init_83 : decode cX10_init 83 = .ok (.aload_n 0, 1) := by decide +kernel
theorem dX10_init_84 : decode cX10_init 84 = .ok (.getfield 35, 3) := by decide +kernel
theorem dX10_init_87 : decode cX10_init 87 = .ok (.aload_n 0, 1) := by decide +kernel
theorem dX10_init_88 : decode cX10_init 88 = .ok (.getfield 44, 3) := by decide +kernel
theorem dX10_init_91 : decode cX10_init 91 = .ok (.invokespecial 57, 3) := by decide +kernel
theorem dX10_init_94 : decode cX10_init 94 = .ok (.putfield 60, 3) := by decide +kernel
theorem dX10_init_97 : decode cX10_init 97 = .ok (.aload_n 0, 1) := by decide +kernel
theorem dX10_init_98 : decode cX10_init 98 = .ok (.new 64, 3) := by decide +kernel
theorem dX10_init_101 : decode cX10_init 101 = .ok (.dup, 1) := by decide +kernel
theorem dX10_init_102 : decode cX10_init 102 = .ok (.aload_n 0, 1) := by decide +kernel
theorem dX10_init_103 : decode cX10_init 103 = .ok (.getfield 35, 3) := by decide +kernel
theorem dX10_init_106 : decode cX10_init 106 = .ok (.invokespecial 66, 3) := by decide +kernel
theorem dX10_init_109 : decode cX10_init 109 = .ok (.putfield 67, 3) := by decide +kernel
theorem dX10_init_112 : decode cX10_init 112 = .ok (.aload_n 0, 1) := by decide +kernel
theorem dX10_init_113 : decode cX10_init 113 = .ok (.new 71, 3) := by decide +kernel
theorem dX10_init_116 : decode cX10_init 116 = .ok (.dup, 1) := by decide +kernel
theorem dX10_init_117 : decode cX10_init 117 = .ok (.aload_n 0, 1) := by decide +kernel
theorem dX10_init_118 : decode cX10_init 118 = .ok (.getfield 35, 3) := by decide +kernel
theorem dX10_init_121 : decode cX10_init 121 = .ok (.invokespecial 73, 3) := by decide +kernel
theorem dX10_init_124 : decode cX10_init 124 = .ok (.putfield 74, 3) := by decide +kernel
theorem dX10_init_127 : decode cX10_init 127 = .ok (.aload_n 0, 1) := by decide +kernel
theorem dX10_init_128 : decode cX10_init 128 = .ok (.bipush 6, 2) := by decide +kernel
theorem dX10_init_130 : decode cX10_init 130 = .ok (.newarray .int, 2) := by decide +kernel
theorem dX10_init_132 : decode cX10_init 132 = .ok (.putfield 78, 3) := by decide +kernel
theorem dX10_init_135 : decode cX10_init 135 = .ok (.aload_n 0, 1) := by decide +kernel
theorem dX10_init_136 : decode cX10_init 136 = .ok (.lconst 1, 1) := by decide +kernel
theorem dX10_init_137 : decode cX10_init 137 = .ok (.putfield 82, 3) := by decide +kernel
theorem dX10_init_140 : decode cX10_init 140 = .ok (.return_, 1) := by decide +kernel
theorem dX10_row_0 : decode cX10_row 0 = .ok (.aload_n 0, 1) := by decide +kernel
theorem dX10_row_1 : decode cX10_row 1 = .ok (.getfield 10, 3) := by decide +kernel
theorem dX10_row_4 : decode cX10_row 4 = .ok (.getfield 86, 3) := by decide +kernel
theorem dX10_row_7 : decode cX10_row 7 = .ok (.iload_n 1, 1) := by decide +kernel
theorem dX10_row_8 : decode cX10_row 8 = .ok (.invokevirtual 90, 3) := by decide +kernel
theorem dX10_row_11 : decode cX10_row 11 = .ok (.ifCond .eq 9, 3) := by decide +kernel
theorem dX10_row_14 : decode cX10_row 14 = .ok (.iload_n 2, 1) := by decide +kernel
theorem dX10_row_15 : decode cX10_row 15 = .ok (.bipush 40, 2) := by decide +kernel
theorem dX10_row_17 : decode cX10_row 17 = .ok (.if_icmp .le 5, 3) := by decide +kernel
theorem dX10_row_20 : decode cX10_row 20 = .ok (.iconst (-1), 1) := by decide +kernel
theorem dX10_row_21 : decode cX10_row 21 = .ok (.ireturn, 1) := by decide +kernel
theorem dX10_row_22 : decode cX10_row 22 = .ok (.iload_n 2, 1) := by decide +kernel
theorem dX10_row_23 : decode cX10_row 23 = .ok (.ifCond .ge 9, 3) := by decide +kernel
theorem dX10_row_26 : decode cX10_row 26 = .ok (.aload_n 0, 1) := by decide +kernel
theorem dX10_row_27 : decode cX10_row 27 = .ok (.iconst 5, 1) := by decide +kernel
theorem dX10_row_28 : decode cX10_row 28 = .ok (.invokevirtual 96, 3) := by decide +kernel
theorem dX10_row_31 : decode cX10_row 31 = .ok (.ireturn, 1) := by decide +kernel
theorem dX10_row_32 : decode cX10_row 32 = .ok (.aload_n 0, 1) := by decide +kernel
theorem dX10_row_33 : decode cX10_row 33 = .ok (.getfield 10, 3) := by decide +kernel
theorem dX10_row_36 : decode cX10_row 36 = .ok (.iload_n 1, 1) := by decide +kernel
theorem dX10_row_37 : decode cX10_row 37 = .ok (.iload_n 2, 1) := by decide +kernel
theorem dX10_row_38 : decode cX10_row 38 = .ok (.invokevirtual 100, 3) := by decide +kernel
theorem dX10_row_41 : decode cX10_row 41 = .ok (.iload_n 2, 1) := by decide +kernel
theorem dX10_row_42 : decode cX10_row 42 = .ok (.ireturn, 1) := by decide +kernel
theorem dX10_lay_0 : decode cX10_lay 0 = .ok (.aload_n 0, 1) := by decide +kernel
theorem dX10_lay_1 : decode cX10_lay 1 = .ok (.iload_n 1, 1) := by decide +kernel
theorem dX10_lay_2 : decode cX10_lay 2 = .ok (.iload_n 2, 1) := by decide +kernel
theorem dX10_lay_3 : decode cX10_lay 3 = .ok (.invokevirtual 104, 3) := by decide +kernel
theorem dX10_lay_6 : decode cX10_lay 6 = .ok (.istore 4, 2) := by decide +kernel
theorem dX10_lay_8 : decode cX10_lay 8 = .ok (.iload 4, 2) := by decide +kernel
theorem dX10_lay_10 : decode cX10_lay 10 = .ok (.ifCond .eq 6, 3) := by decide +kernel
theorem dX10_lay_13 : decode cX10_lay 13 = .ok (.iload 4, 2) := by decide +kernel
theorem dX10_lay_15 : decode cX10_lay 15 = .ok (.ireturn, 1) := by decide +kernel
theorem dX10_lay_16 : decode cX10_lay 16 = .ok (.aload_n 0, 1) := by decide +kernel
theorem dX10_lay_17 : decode cX10_lay 17 = .ok (.aload_n 0, 1) := by decide +kernel
theorem dX10_lay_18 : decode cX10_lay 18 = .ok (.getfield 10, 3) := by decide +kernel
theorem dX10_lay_21 : decode cX10_lay 21 = .ok (.iload_n 1, 1) := by decide +kernel
theorem dX10_lay_22 : decode cX10_lay 22 = .ok (.iload_n 2, 1) := by decide +kernel
theorem dX10_lay_23 : decode cX10_lay 23 = .ok (.invokevirtual 108, 3) := by decide +kernel
theorem dX10_lay_26 : decode cX10_lay 26 = .ok (.putfield 111, 3) := by decide +kernel
theorem dX10_lay_29 : decode cX10_lay 29 = .ok (.aload_n 0, 1) := by decide +kernel
theorem dX10_lay_30 : decode cX10_lay 30 = .ok (.getfield 10, 3) := by decide +kernel
theorem dX10_lay_33 : decode cX10_lay 33 = .ok (.iload_n 1, 1) := by decide +kernel
theorem dX10_lay_34 : decode cX10_lay 34 = .ok (.iload_n 2, 1) := by decide +kernel
theorem dX10_lay_35 : decode cX10_lay 35 = .ok (.iload_n 3, 1) := by decide +kernel
theorem dX10_lay_36 : decode cX10_lay 36 = .ok (.invokevirtual 115, 3) := by decide +kernel
theorem dX10_lay_39 : decode cX10_lay 39 = .ok (.iconst 1, 1) := by decide +kernel
theorem dX10_lay_40 : decode cX10_lay 40 = .ok (.ireturn, 1) := by decide +kernel
theorem dX10_at_0 : decode cX10_at 0 = .ok (.aload_n 0, 1) := by decide +kernel
theorem dX10_at_1 : decode cX10_at 1 = .ok (.iload_n 1, 1) := by decide +kernel
theorem dX10_at_2 : decode cX10_at 2 = .ok (.iload_n 2, 1) := by decide +kernel
theorem dX10_at_3 : decode cX10_at 3 = .ok (.invokevirtual 104, 3) := by decide +kernel
theorem dX10_at_6 : decode cX10_at 6 = .ok (.istore_n 3, 1) := by decide +kernel
theorem dX10_at_7 : decode cX10_at 7 = .ok (.iload_n 3, 1) := by decide +kernel
theorem dX10_at_8 : decode cX10_at 8 = .ok (.ifCond .eq 5, 3) := by decide +kernel
theorem dX10_at_11 : decode cX10_at 11 = .ok (.iload_n 3, 1) := by decide +kernel
theorem dX10_at_12 : decode cX10_at 12 = .ok (.ireturn, 1) := by decide +kernel
theorem dX10_at_13 : decode cX10_at 13 = .ok (.aload_n 0, 1) := by decide +kernel
theorem dX10_at_14 : decode cX10_at 14 = .ok (.aload_n 0, 1) := by decide +kernel
theorem dX10_at_15 : decode cX10_at 15 = .ok (.getfield 10, 3) := by decide +kernel
theorem dX10_at_18 : decode cX10_at 18 = .ok (.iload_n 1, 1) := by decide +kernel
theorem dX10_at_19 : decode cX10_at 19 = .ok (.iload_n 2, 1) := by decide +kernel
theorem dX10_at_20 : decode cX10_at 20 = .ok (.invokevirtual 108, 3) := by decide +kernel
theorem dX10_at_23 : decode cX10_at 23 = .ok (.putfield 111, 3) := by decide +kernel
theorem dX10_at_26 : decode cX10_at 26 = .ok (.iconst 1, 1) := by decide +kernel
theorem dX10_at_27 : decode cX10_at 27 = .ok (.ireturn, 1) := by decide +kernel
theorem dX10_tear_0 : decode cX10_tear 0 = .ok (.aload_n 0, 1) := by decide +kernel
theorem dX10_tear_1 : decode cX10_tear 1 = .ok (.iload_n 1, 1) := by decide +kernel
theorem dX10_tear_2 : decode cX10_tear 2 = .ok (.invokevirtual 119, 3) := by decide +kernel
theorem dX10_tear_5 : decode cX10_tear 5 = .ok (.istore_n 2, 1) := by decide +kernel
theorem dX10_tear_6 : decode cX10_tear 6 = .ok (.iload_n 2, 1) := by decide +kernel
theorem dX10_tear_7 : decode cX10_tear 7 = .ok (.ifCond .eq 5, 3) := by decide +kernel
theorem dX10_tear_10 : decode cX10_tear 10 = .ok (.iload_n 2, 1) := by decide +kernel
theorem dX10_tear_11 : decode cX10_tear 11 = .ok (.ireturn, 1) := by decide +kernel
theorem dX10_tear_12 : decode cX10_tear 12 = .ok (.aload_n 0, 1) := by decide +kernel
theorem dX10_tear_13 : decode cX10_tear 13 = .ok (.getfield 10, 3) := by decide +kernel
theorem dX10_tear_16 : decode cX10_tear 16 = .ok (.getfield 86, 3) := by decide +kernel
theorem dX10_tear_19 : decode cX10_tear 19 = .ok (.iload_n 1, 1) := by decide +kernel
theorem dX10_tear_20 : decode cX10_tear 20 = .ok (.invokevirtual 122, 3) := by decide +kernel
theorem dX10_tear_23 : decode cX10_tear 23 = .ok (.iconst 1, 1) := by decide +kernel
theorem dX10_tear_24 : decode cX10_tear 24 = .ok (.ireturn, 1) := by decide +kernel
theorem dX10_copy_0 : decode cX10_copy 0 = .ok (.aload_n 0, 1) := by decide +kernel
theorem dX10_copy_1 : decode cX10_copy 1 = .ok (.getfield 10, 3) := by decide +kernel
theorem dX10_copy_4 : decode cX10_copy 4 = .ok (.getfield 86, 3) := by decide +kernel
theorem dX10_copy_7 : decode cX10_copy 7 = .ok (.iload_n 1, 1) := by decide +kernel
theorem dX10_copy_8 : decode cX10_copy 8 = .ok (.invokevirtual 90, 3) := by decide +kernel
theorem dX10_copy_11 : decode cX10_copy 11 = .ok (.ifCond .eq 17, 3) := by decide +kernel
theorem dX10_copy_14 : decode cX10_copy 14 = .ok (.aload_n 0, 1) := by decide +kernel
theorem dX10_copy_15 : decode cX10_copy 15 = .ok (.getfield 10, 3) := by decide +kernel
theorem dX10_copy_18 : decode cX10_copy 18 = .ok (.getfield 86, 3) := by decide +kernel
theorem dX10_copy_21 : decode cX10_copy 21 = .ok (.iload_n 3, 1) := by decide +kernel
theorem dX10_copy_22 : decode cX10_copy 22 = .ok (.invokevirtual 90, 3) := by decide +kernel
theorem dX10_copy_25 : decode cX10_copy 25 = .ok (.ifCond .ne 5, 3) := by decide +kernel
theorem dX10_copy_28 : decode cX10_copy 28 = .ok (.iconst (-1), 1) := by decide +kernel
theorem dX10_copy_29 : decode cX10_copy 29 = .ok (.ireturn, 1) := by decide +kernel
theorem dX10_copy_30 : decode cX10_copy 30 = .ok (.iload 5, 2) := by decide +kernel
theorem dX10_copy_32 : decode cX10_copy 32 = .ok (.ifCond .ge 9, 3) := by decide +kernel
theorem dX10_copy_35 : decode cX10_copy 35 = .ok (.aload_n 0, 1) := by decide +kernel
theorem dX10_copy_36 : decode cX10_copy 36 = .ok (.iconst 5, 1) := by decide +kernel
theorem dX10_copy_37 : decode cX10_copy 37 = .ok (.invokevirtual 96, 3) := by decide +kernel
theorem dX10_copy_40 : decode cX10_copy 40 = .ok (.ireturn, 1) := by decide +kernel
theorem dX10_copy_41 : decode cX10_copy 41 = .ok (.aload_n 0, 1) := by decide +kernel
theorem dX10_copy_42 : decode cX10_copy 42 = .ok (.getfield 10, 3) := by decide +kernel
theorem dX10_copy_45 : decode cX10_copy 45 = .ok (.getfield 86, 3) := by decide +kernel
theorem dX10_copy_48 : decode cX10_copy 48 = .ok (.iload_n 1, 1) := by decide +kernel
theorem dX10_copy_49 : decode cX10_copy 49 = .ok (.invokevirtual 126, 3) := by decide +kernel
theorem dX10_copy_52 : decode cX10_copy 52 = .ok (.ifCond .eq 17, 3) := by decide +kernel
theorem dX10_copy_55 : decode cX10_copy 55 = .ok (.aload_n 0, 1) := by decide +kernel
theorem dX10_copy_56 : decode cX10_copy 56 = .ok (.getfield 10, 3) := by decide +kernel
theorem dX10_copy_59 : decode cX10_copy 59 = .ok (.getfield 86, 3) := by decide +kernel
theorem dX10_copy_62 : decode cX10_copy 62 = .ok (.iload_n 3, 1) := by decide +kernel
theorem dX10_copy_63 : decode cX10_copy 63 = .ok (.invokevirtual 126, 3) := by decide +kernel
theorem dX10_copy_66 : decode cX10_copy 66 = .ok (.ifCond .ne 9, 3) := by decide +kernel
theorem dX10_copy_69 : decode cX10_copy 69 = .ok (.aload_n 0, 1) := by decide +kernel
theorem dX10_copy_70 : decode cX10_copy 70 = .ok (.iconst 1, 1) := by decide +kernel
theorem dX10_copy_71 : decode cX10_copy 71 = .ok (.invokevirtual 96, 3) := by decide +kernel
theorem dX10_copy_74 : decode cX10_copy 74 = .ok (.ireturn, 1) := by decide +kernel
theorem dX10_copy_75 : decode cX10_copy 75 = .ok (.aload_n 0, 1) := by decide +kernel
theorem dX10_copy_76 : decode cX10_copy 76 = .ok (.getfield 10, 3) := by decide +kernel
theorem dX10_copy_79 : decode cX10_copy 79 = .ok (.getfield 86, 3) := by decide +kernel
theorem dX10_copy_82 : decode cX10_copy 82 = .ok (.iload_n 1, 1) := by decide +kernel
theorem dX10_copy_83 : decode cX10_copy 83 = .ok (.iload_n 2, 1) := by decide +kernel
theorem dX10_copy_84 : decode cX10_copy 84 = .ok (.iload 5, 2) := by decide +kernel
theorem dX10_copy_86 : decode cX10_copy 86 = .ok (.invokevirtual 129, 3) := by decide +kernel
theorem dX10_copy_89 : decode cX10_copy 89 = .ok (.ifCond .eq 21, 3) := by decide +kernel
theorem dX10_copy_92 : decode cX10_copy 92 = .ok (.aload_n 0, 1) := by decide +kernel
theorem dX10_copy_93 : decode cX10_copy 93 = .ok (.getfield 10, 3) := by decide +kernel
theorem dX10_copy_96 : decode cX10_copy 96 = .ok (.getfield 86, 3) := by decide +kernel
theorem dX10_copy_99 : decode cX10_copy 99 = .ok (.iload_n 3, 1) := by decide +kernel
theorem dX10_copy_100 : decode cX10_copy 100 = .ok (.iload 4, 2) := by decide +kernel
theorem dX10_copy_102 : decode cX10_copy 102 = .ok (.iload 5, 2) := by decide +kernel
theorem dX10_copy_104 : decode cX10_copy 104 = .ok (.invokevirtual 129, 3) := by decide +kernel
theorem dX10_copy_107 : decode cX10_copy 107 = .ok (.ifCond .ne 9, 3) := by decide +kernel
theorem dX10_copy_110 : decode cX10_copy 110 = .ok (.aload_n 0, 1) := by decide +kernel
theorem dX10_copy_111 : decode cX10_copy 111 = .ok (.iconst 2, 1) := by decide +kernel
theorem dX10_copy_112 : decode cX10_copy 112 = .ok (.invokevirtual 96, 3) := by decide +kernel
theorem dX10_copy_115 : decode cX10_copy 115 = .ok (.ireturn, 1) := by decide +kernel
theorem dX10_copy_116 : decode cX10_copy 116 = .ok (.aload_n 0, 1) := by decide +kernel
theorem dX10_copy_117 : decode cX10_copy 117 = .ok (.getfield 10, 3) := by decide +kernel
theorem dX10_copy_120 : decode cX10_copy 120 = .ok (.iload_n 1, 1) := by decide +kernel
theorem dX10_copy_121 : decode cX10_copy 121 = .ok (.iload_n 2, 1) := by decide +kernel
theorem dX10_copy_122 : decode cX10_copy 122 = .ok (.iload_n 3, 1) := by decide +kernel
theorem dX10_copy_123 : decode cX10_copy 123 = .ok (.iload 4, 2) := by decide +kernel
theorem dX10_copy_125 : decode cX10_copy 125 = .ok (.iload 5, 2) := by decide +kernel
theorem dX10_copy_127 : decode cX10_copy 127 = .ok (.invokevirtual 133, 3) := by decide +kernel
theorem dX10_copy_130 : decode cX10_copy 130 = .ok (.iconst 1, 1) := by decide +kernel
theorem dX10_copy_131 : decode cX10_copy 131 = .ok (.ireturn, 1) := by decide +kernel
theorem dX10_mean_0 : decode cX10_mean 0 = .ok (.aload_n 0, 1) := by decide +kernel
theorem dX10_mean_1 : decode cX10_mean 1 = .ok (.iload_n 1, 1) := by decide +kernel
theorem dX10_mean_2 : decode cX10_mean 2 = .ok (.invokevirtual 119, 3) := by decide +kernel
theorem dX10_mean_5 : decode cX10_mean 5 = .ok (.istore_n 2, 1) := by decide +kernel
theorem dX10_mean_6 : decode cX10_mean 6 = .ok (.iload_n 2, 1) := by decide +kernel
theorem dX10_mean_7 : decode cX10_mean 7 = .ok (.ifCond .eq 5, 3) := by decide +kernel
theorem dX10_mean_10 : decode cX10_mean 10 = .ok (.iload_n 2, 1) := by decide +kernel
theorem dX10_mean_11 : decode cX10_mean 11 = .ok (.ireturn, 1) := by decide +kernel
theorem dX10_mean_12 : decode cX10_mean 12 = .ok (.aload_n 0, 1) := by decide +kernel
theorem dX10_mean_13 : decode cX10_mean 13 = .ok (.getfield 10, 3) := by decide +kernel
theorem dX10_mean_16 : decode cX10_mean 16 = .ok (.getfield 86, 3) := by decide +kernel
theorem dX10_mean_19 : decode cX10_mean 19 = .ok (.iload_n 1, 1) := by decide +kernel
theorem dX10_mean_20 : decode cX10_mean 20 = .ok (.invokevirtual 137, 3) := by decide +kernel
theorem dX10_mean_23 : decode cX10_mean 23 = .ok (.istore_n 3, 1) := by decide +kernel
theorem dX10_mean_24 : decode cX10_mean 24 = .ok (.iload_n 3, 1) := by decide +kernel
theorem dX10_mean_25 : decode cX10_mean 25 = .ok (.ifCond .gt 9, 3) := by decide +kernel
theorem dX10_mean_28 : decode cX10_mean 28 = .ok (.aload_n 0, 1) := by decide +kernel
theorem dX10_mean_29 : decode cX10_mean 29 = .ok (.iconst 4, 1) := by decide +kernel
theorem dX10_mean_30 : decode cX10_mean 30 = .ok (.invokevirtual 96, 3) := by decide +kernel
theorem dX10_mean_33 : decode cX10_mean 33 = .ok (.ireturn, 1) := by decide +kernel
theorem dX10_mean_34 : decode cX10_mean 34 = .ok (.aload_n 0, 1) := by decide +kernel
theorem dX10_mean_35 : decode cX10_mean 35 = .ok (.aload_n 0, 1) := by decide +kernel
theorem dX10_mean_36 : decode cX10_mean 36 = .ok (.getfield 10, 3) := by decide +kernel
theorem dX10_mean_39 : decode cX10_mean 39 = .ok (.iload_n 1, 1) := by decide +kernel
theorem dX10_mean_40 : decode cX10_mean 40 = .ok (.invokevirtual 140, 3) := by decide +kernel
theorem dX10_mean_43 : decode cX10_mean 43 = .ok (.iload_n 3, 1) := by decide +kernel
theorem dX10_mean_44 : decode cX10_mean 44 = .ok (.i2l, 1) := by decide +kernel
theorem dX10_mean_45 : decode cX10_mean 45 = .ok (.ldiv, 1) := by decide +kernel
theorem dX10_mean_46 : decode cX10_mean 46 = .ok (.l2i, 1) := by decide +kernel
theorem dX10_mean_47 : decode cX10_mean 47 = .ok (.putfield 111, 3) := by decide +kernel
theorem dX10_mean_50 : decode cX10_mean 50 = .ok (.iconst 1, 1) := by decide +kernel
theorem dX10_mean_51 : decode cX10_mean 51 = .ok (.ireturn, 1) := by decide +kernel
theorem dX10_text_0 : decode cX10_text 0 = .ok (.aload_n 0, 1) := by decide +kernel
theorem dX10_text_1 : decode cX10_text 1 = .ok (.getfield 19, 3) := by decide +kernel
theorem dX10_text_4 : decode cX10_text 4 = .ok (.getfield 144, 3) := by decide +kernel
theorem dX10_text_7 : decode cX10_text 7 = .ok (.iload_n 1, 1) := by decide +kernel
theorem dX10_text_8 : decode cX10_text 8 = .ok (.invokevirtual 90, 3) := by decide +kernel
theorem dX10_text_11 : decode cX10_text 11 = .ok (.ifCond .eq 9, 3) := by decide +kernel
theorem dX10_text_14 : decode cX10_text 14 = .ok (.iload_n 2, 1) := by decide +kernel
theorem dX10_text_15 : decode cX10_text 15 = .ok (.bipush 80, 2) := by decide +kernel
theorem dX10_text_17 : decode cX10_text 17 = .ok (.if_icmp .le 5, 3) := by decide +kernel
theorem dX10_text_20 : decode cX10_text 20 = .ok (.iconst (-1), 1) := by decide +kernel
theorem dX10_text_21 : decode cX10_text 21 = .ok (.ireturn, 1) := by decide +kernel
theorem dX10_text_22 : decode cX10_text 22 = .ok (.iload_n 2, 1) := by decide +kernel
theorem dX10_text_23 : decode cX10_text 23 = .ok (.ifCond .ge 9, 3) := by decide +kernel
theorem dX10_text_26 : decode cX10_text 26 = .ok (.aload_n 0, 1) := by decide +kernel
theorem dX10_text_27 : decode cX10_text 27 = .ok (.iconst 5, 1) := by decide +kernel
theorem dX10_text_28 : decode cX10_text 28 = .ok (.invokevirtual 96, 3) := by decide +kernel
theorem dX10_text_31 : decode cX10_text 31 = .ok (.ireturn, 1) := by decide +kernel
theorem dX10_text_32 : decode cX10_text 32 = .ok (.aload_n 0, 1) := by decide +kernel
theorem dX10_text_33 : decode cX10_text 33 = .ok (.getfield 19, 3) := by decide +kernel
theorem dX10_text_36 : decode cX10_text 36 = .ok (.iload_n 1, 1) := by decide +kernel
theorem dX10_text_37 : decode cX10_text 37 = .ok (.iload_n 2, 1) := by decide +kernel
theorem dX10_text_38 : decode cX10_text 38 = .ok (.invokevirtual 145, 3) := by decide +kernel
theorem dX10_text_41 : decode cX10_text 41 = .ok (.iload_n 2, 1) := by decide +kernel
theorem dX10_text_42 : decode cX10_text 42 = .ok (.ireturn, 1) := by decide +kernel
theorem dX10_put_0 : decode cX10_put 0 = .ok (.aload_n 0, 1) := by decide +kernel
theorem dX10_put_1 : decode cX10_put 1 = .ok (.iload_n 1, 1) := by decide +kernel
theorem dX10_put_2 : decode cX10_put 2 = .ok (.invokevirtual 146, 3) := by decide +kernel
theorem dX10_put_5 : decode cX10_put 5 = .ok (.istore 4, 2) := by decide +kernel
theorem dX10_put_7 : decode cX10_put 7 = .ok (.iload 4, 2) := by decide +kernel
theorem dX10_put_9 : decode cX10_put 9 = .ok (.ifCond .eq 6, 3) := by decide +kernel
theorem dX10_put_12 : decode cX10_put 12 = .ok (.iload 4, 2) := by decide +kernel
theorem dX10_put_14 : decode cX10_put 14 = .ok (.ireturn, 1) := by decide +kernel
theorem dX10_put_15 : decode cX10_put 15 = .ok (.aload_n 0, 1) := by decide +kernel
theorem dX10_put_16 : decode cX10_put 16 = .ok (.getfield 19, 3) := by decide +kernel
theorem dX10_put_19 : decode cX10_put 19 = .ok (.getfield 144, 3) := by decide +kernel
theorem dX10_put_22 : decode cX10_put 22 = .ok (.iload_n 1, 1) := by decide +kernel
theorem dX10_put_23 : decode cX10_put 23 = .ok (.iload_n 2, 1) := by decide +kernel
theorem dX10_put_24 : decode cX10_put 24 = .ok (.iconst 1, 1) := by decide +kernel
theorem dX10_put_25 : decode cX10_put 25 = .ok (.invokevirtual 129, 3) := by decide +kernel
theorem dX10_put_28 : decode cX10_put 28 = .ok (.ifCond .ne 9, 3) := by decide +kernel
theorem dX10_put_31 : decode cX10_put 31 = .ok (.aload_n 0, 1) := by decide +kernel
theorem dX10_put_32 : decode cX10_put 32 = .ok (.iconst 2, 1) := by decide +kernel
theorem dX10_put_33 : decode cX10_put 33 = .ok (.invokevirtual 96, 3) := by decide +kernel
theorem dX10_put_36 : decode cX10_put 36 = .ok (.ireturn, 1) := by decide +kernel
theorem dX10_put_37 : decode cX10_put 37 = .ok (.aload_n 0, 1) := by decide +kernel
theorem dX10_put_38 : decode cX10_put 38 = .ok (.getfield 19, 3) := by decide +kernel
theorem dX10_put_41 : decode cX10_put 41 = .ok (.iload_n 1, 1) := by decide +kernel
theorem dX10_put_42 : decode cX10_put 42 = .ok (.iload_n 2, 1) := by decide +kernel
theorem dX10_put_43 : decode cX10_put 43 = .ok (.invokevirtual 149, 3) := by decide +kernel
theorem dX10_put_46 : decode cX10_put 46 = .ok (.istore 5, 2) := by decide +kernel
theorem dX10_put_48 : decode cX10_put 48 = .ok (.aload_n 0, 1) := by decide +kernel
theorem dX10_put_49 : decode cX10_put 49 = .ok (.getfield 19, 3) := by decide +kernel
theorem dX10_put_52 : decode cX10_put 52 = .ok (.iload_n 1, 1) := by decide +kernel
theorem dX10_put_53 : decode cX10_put 53 = .ok (.iload_n 2, 1) := by decide +kernel
theorem dX10_put_54 : decode cX10_put 54 = .ok (.iload_n 3, 1) := by decide +kernel
theorem dX10_put_55 : decode cX10_put 55 = .ok (.invokevirtual 150, 3) := by decide +kernel
theorem dX10_put_58 : decode cX10_put 58 = .ok (.iload 5, 2) := by decide +kernel
theorem dX10_put_60 : decode cX10_put 60 = .ok (.sipush 1000, 3) := by decide +kernel
theorem dX10_put_63 : decode cX10_put 63 = .ok (.iadd, 1) := by decide +kernel
theorem dX10_put_64 : decode cX10_put 64 = .ok (.ireturn, 1) := by decide +kernel
theorem dX10_fault_0 : decode cX10_fault 0 = .ok (.aload_n 0, 1) := by decide +kernel
theorem dX10_fault_1 : decode cX10_fault 1 = .ok (.iload_n 1, 1) := by decide +kernel
theorem dX10_fault_2 : decode cX10_fault 2 = .ok (.invokevirtual 146, 3) := by decide +kernel
theorem dX10_fault_5 : decode cX10_fault 5 = .ok (.istore_n 2, 1) := by decide +kernel
theorem dX10_fault_6 : decode cX10_fault 6 = .ok (.iload_n 2, 1) := by decide +kernel
theorem dX10_fault_7 : decode cX10_fault 7 = .ok (.ifCond .eq 5, 3) := by decide +kernel
theorem dX10_fault_10 : decode cX10_fault 10 = .ok (.iload_n 2, 1) := by decide +kernel
theorem dX10_fault_11 : decode cX10_fault 11 = .ok (.ireturn, 1) := by decide +kernel
theorem dX10_fault_12 : decode cX10_fault 12 = .ok (.aload_n 0, 1) := by decide +kernel
theorem dX10_fault_13 : decode cX10_fault 13 = .ok (.getfield 28, 3) := by decide +kernel
theorem dX10_fault_16 : decode cX10_fault 16 = .ok (.iload_n 1, 1) := by decide +kernel
theorem dX10_fault_17 : decode cX10_fault 17 = .ok (.invokevirtual 151, 3) := by decide +kernel
theorem dX10_fault_20 : decode cX10_fault 20 = .ok (.ireturn, 1) := by decide +kernel
theorem dX10_piece_0 : decode cX10_piece 0 = .ok (.aload_n 0, 1) := by decide +kernel
theorem dX10_piece_1 : decode cX10_piece 1 = .ok (.iload_n 1, 1) := by decide +kernel
theorem dX10_piece_2 : decode cX10_piece 2 = .ok (.invokevirtual 146, 3) := by decide +kernel
theorem dX10_piece_5 : decode cX10_piece 5 = .ok (.istore_n 2, 1) := by decide +kernel
theorem dX10_piece_6 : decode cX10_piece 6 = .ok (.iload_n 2, 1) := by decide +kernel
theorem dX10_piece_7 : decode cX10_piece 7 = .ok (.ifCond .eq 5, 3) := by decide +kernel
theorem dX10_piece_10 : decode cX10_piece 10 = .ok (.iload_n 2, 1) := by decide +kernel
theorem dX10_piece_11 : decode cX10_piece 11 = .ok (.ireturn, 1) := by decide +kernel
theorem dX10_piece_12 : decode cX10_piece 12 = .ok (.aload_n 0, 1) := by decide +kernel
theorem dX10_piece_13 : decode cX10_piece 13 = .ok (.getfield 28, 3) := by decide +kernel
theorem dX10_piece_16 : decode cX10_piece 16 = .ok (.iload_n 1, 1) := by decide +kernel
theorem dX10_piece_17 : decode cX10_piece 17 = .ok (.invokevirtual 151, 3) := by decide +kernel
theorem dX10_piece_20 : decode cX10_piece 20 = .ok (.bipush (-9), 2) := by decide +kernel
theorem dX10_piece_22 : decode cX10_piece 22 = .ok (.if_icmp .eq 6, 3) := by decide +kernel
theorem dX10_piece_25 : decode cX10_piece 25 = .ok (.bipush (-4), 2) := by decide +kernel
theorem dX10_piece_27 : decode cX10_piece 27 = .ok (.ireturn, 1) := by decide +kernel
theorem dX10_piece_28 : decode cX10_piece 28 = .ok (.aload_n 0, 1) := by decide +kernel
theorem dX10_piece_29 : decode cX10_piece 29 = .ok (.getfield 35, 3) := by decide +kernel
theorem dX10_piece_32 : decode cX10_piece 32 = .ok (.aload_n 0, 1) := by decide +kernel
theorem dX10_piece_33 : decode cX10_piece 33 = .ok (.getfield 28, 3) := by decide +kernel
theorem dX10_piece_36 : decode cX10_piece 36 = .ok (.invokevirtual 154, 3) := by decide +kernel
theorem dX10_piece_39 : decode cX10_piece 39 = .ok (.aload_n 0, 1) := by decide +kernel
theorem dX10_piece_40 : decode cX10_piece 40 = .ok (.getfield 44, 3) := by decide +kernel
theorem dX10_piece_43 : decode cX10_piece 43 = .ok (.iconst 0, 1) := by decide +kernel
theorem dX10_piece_44 : decode cX10_piece 44 = .ok (.invokevirtual 158, 3) := by decide +kernel
theorem dX10_piece_47 : decode cX10_piece 47 = .ok (.aload_n 0, 1) := by decide +kernel
theorem dX10_piece_48 : decode cX10_piece 48 = .ok (.getfield 51, 3) := by decide +kernel
theorem dX10_piece_51 : decode cX10_piece 51 = .ok (.getfield 161, 3) := by decide +kernel
theorem dX10_piece_54 : decode cX10_piece 54 = .ok (.invokevirtual 162, 3) := by decide +kernel
theorem dX10_piece_57 : decode cX10_piece 57 = .ok (.aload_n 0, 1) := by decide +kernel
theorem dX10_piece_58 : decode cX10_piece 58 = .ok (.getfield 35, 3) := by decide +kernel
theorem dX10_piece_61 : decode cX10_piece 61 = .ok (.getfield 165, 3) := by decide +kernel
theorem dX10_piece_64 : decode cX10_piece 64 = .ok (.ireturn, 1) := by decide +kernel
theorem dX10_place_0 : decode cX10_place 0 = .ok (.aload_n 0, 1) := by decide +kernel
theorem dX10_place_1 : decode cX10_place 1 = .ok (.getfield 35, 3) := by decide +kernel
theorem dX10_place_4 : decode cX10_place 4 = .ok (.iload_n 1, 1) := by decide +kernel
theorem dX10_place_5 : decode cX10_place 5 = .ok (.invokevirtual 168, 3) := by decide +kernel
theorem dX10_place_8 : decode cX10_place 8 = .ok (.ifCond .eq 12, 3) := by decide +kernel
theorem dX10_place_11 : decode cX10_place 11 = .ok (.iload_n 2, 1) := by decide +kernel
theorem dX10_place_12 : decode cX10_place 12 = .ok (.ifCond .lt 8, 3) := by decide +kernel
theorem dX10_place_15 : decode cX10_place 15 = .ok (.iload_n 2, 1) := by decide +kernel
theorem dX10_place_16 : decode cX10_place 16 = .ok (.iconst 2, 1) := by decide +kernel
theorem dX10_place_17 : decode cX10_place 17 = .ok (.if_icmp .le 5, 3) := by decide +kernel
theorem dX10_place_20 : decode cX10_place 20 = .ok (.iconst (-1), 1) := by decide +kernel
theorem dX10_place_21 : decode cX10_place 21 = .ok (.ireturn, 1) := by decide +kernel
theorem dX10_place_22 : decode cX10_place 22 = .ok (.aload_n 0, 1) := by decide +kernel
theorem dX10_place_23 : decode cX10_place 23 = .ok (.aload_n 0, 1) := by decide +kernel
theorem dX10_place_24 : decode cX10_place 24 = .ok (.getfield 35, 3) := by decide +kernel
theorem dX10_place_27 : decode cX10_place 27 = .ok (.iload_n 1, 1) := by decide +kernel
theorem dX10_place_28 : decode cX10_place 28 = .ok (.iload_n 2, 1) := by decide +kernel
theorem dX10_place_29 : decode cX10_place 29 = .ok (.invokevirtual 171, 3) := by decide +kernel
theorem dX10_place_32 : decode cX10_place 32 = .ok (.putfield 111, 3) := by decide +kernel
theorem dX10_place_35 : decode cX10_place 35 = .ok (.iconst 1, 1) := by decide +kernel
theorem dX10_place_36 : decode cX10_place 36 = .ok (.ireturn, 1) := by decide +kernel
theorem dX10_note_0 : decode cX10_note 0 = .ok (.aload_n 0, 1) := by decide +kernel
theorem dX10_note_1 : decode cX10_note 1 = .ok (.getfield 35, 3) := by decide +kernel
theorem dX10_note_4 : decode cX10_note 4 = .ok (.iload_n 1, 1) := by decide +kernel
theorem dX10_note_5 : decode cX10_note 5 = .ok (.invokevirtual 174, 3) := by decide +kernel
theorem dX10_note_8 : decode cX10_note 8 = .ok (.ifCond .eq 14, 3) := by decide +kernel
theorem dX10_note_11 : decode cX10_note 11 = .ok (.aload_n 0, 1) := by decide +kernel
theorem dX10_note_12 : decode cX10_note 12 = .ok (.getfield 35, 3) := by decide +kernel
theorem dX10_note_15 : decode cX10_note 15 = .ok (.iload_n 2, 1) := by decide +kernel
theorem dX10_note_16 : decode cX10_note 16 = .ok (.invokevirtual 168, 3) := by decide +kernel
theorem dX10_note_19 : decode cX10_note 19 = .ok (.ifCond .ne 5, 3) := by decide +kernel
theorem dX10_note_22 : decode cX10_note 22 = .ok (.iconst (-1), 1) := by decide +kernel
theorem dX10_note_23 : decode cX10_note 23 = .ok (.ireturn, 1) := by decide +kernel
theorem dX10_note_24 : decode cX10_note 24 = .ok (.aload_n 0, 1) := by decide +kernel
theorem dX10_note_25 : decode cX10_note 25 = .ok (.getfield 35, 3) := by decide +kernel
theorem dX10_note_28 : decode cX10_note 28 = .ok (.iload_n 1, 1) := by decide +kernel
theorem dX10_note_29 : decode cX10_note 29 = .ok (.iload_n 2, 1) := by decide +kernel
theorem dX10_note_30 : decode cX10_note 30 = .ok (.invokevirtual 177, 3) := by decide +kernel
theorem dX10_note_33 : decode cX10_note 33 = .ok (.ireturn, 1) := by decide +kernel
theorem dX10_mark_0 : decode cX10_mark 0 = .ok (.aload_n 0, 1) := by decide +kernel
theorem dX10_mark_1 : decode cX10_mark 1 = .ok (.getfield 35, 3) := by decide +kernel
theorem dX10_mark_4 : decode cX10_mark 4 = .ok (.iload_n 1, 1) := by decide +kernel
theorem dX10_mark_5 : decode cX10_mark 5 = .ok (.invokevirtual 168, 3) := by decide +kernel
theorem dX10_mark_8 : decode cX10_mark 8 = .ok (.ifCond .eq 13, 3) := by decide +kernel
theorem dX10_mark_11 : decode cX10_mark 11 = .ok (.iload_n 2, 1) := by decide +kernel
theorem dX10_mark_12 : decode cX10_mark 12 = .ok (.iconst 1, 1) := by decide +kernel
theorem dX10_mark_13 : decode cX10_mark 13 = .ok (.if_icmp .lt 8, 3) := by decide +kernel
theorem dX10_mark_16 : decode cX10_mark 16 = .ok (.iload_n 2, 1) := by decide +kernel
theorem dX10_mark_17 : decode cX10_mark 17 = .ok (.iconst 5, 1) := by decide +kernel
theorem dX10_mark_18 : decode cX10_mark 18 = .ok (.if_icmp .le 5, 3) := by decide +kernel
theorem dX10_mark_21 : decode cX10_mark 21 = .ok (.iconst (-1), 1) := by decide +kernel
theorem dX10_mark_22 : decode cX10_mark 22 = .ok (.ireturn, 1) := by decide +kernel
theorem dX10_mark_23 : decode cX10_mark 23 = .ok (.aload_n 0, 1) := by decide +kernel
theorem dX10_mark_24 : decode cX10_mark 24 = .ok (.getfield 35, 3) := by decide +kernel
theorem dX10_mark_27 : decode cX10_mark 27 = .ok (.iload_n 1, 1) := by decide +kernel
theorem dX10_mark_28 : decode cX10_mark 28 = .ok (.iload_n 2, 1) := by decide +kernel
theorem dX10_mark_29 : decode cX10_mark 29 = .ok (.invokevirtual 180, 3) := by decide +kernel
theorem dX10_mark_32 : decode cX10_mark 32 = .ok (.ifCond .ne 9, 3) := by decide +kernel
theorem dX10_mark_35 : decode cX10_mark 35 = .ok (.aload_n 0, 1) := by decide +kernel
theorem dX10_mark_36 : decode cX10_mark 36 = .ok (.iconst 3, 1) := by decide +kernel
theorem dX10_mark_37 : decode cX10_mark 37 = .ok (.invokevirtual 96, 3) := by decide +kernel
theorem dX10_mark_40 : decode cX10_mark 40 = .ok (.ireturn, 1) := by decide +kernel
theorem dX10_mark_41 : decode cX10_mark 41 = .ok (.aload_n 0, 1) := by decide +kernel
theorem dX10_mark_42 : decode cX10_mark 42 = .ok (.getfield 35, 3) := by decide +kernel
theorem dX10_mark_45 : decode cX10_mark 45 = .ok (.iload_n 1, 1) := by decide +kernel
theorem dX10_mark_46 : decode cX10_mark 46 = .ok (.iload_n 2, 1) := by decide +kernel
theorem dX10_mark_47 : decode cX10_mark 47 = .ok (.invokevirtual 184, 3) := by decide +kernel
theorem dX10_mark_50 : decode cX10_mark 50 = .ok (.ireturn, 1) := by decide +kernel
theorem dX10_play_0 : decode cX10_play 0 = .ok (.aload_n 0, 1) := by decide +kernel
theorem dX10_play_1 : decode cX10_play 1 = .ok (.getfield 44, 3) := by decide +kernel
theorem dX10_play_4 : decode cX10_play 4 = .ok (.invokevirtual 187, 3) := by decide +kernel
theorem dX10_play_7 : decode cX10_play 7 = .ok (.ifCond .eq 6, 3) := by decide +kernel
theorem dX10_play_10 : decode cX10_play 10 = .ok (.bipush (-4), 2) := by decide +kernel
theorem dX10_play_12 : decode cX10_play 12 = .ok (.ireturn, 1) := by decide +kernel
theorem dX10_play_13 : decode cX10_play 13 = .ok (.aload_n 0, 1) := by decide +kernel
theorem dX10_play_14 : decode cX10_play 14 = .ok (.getfield 44, 3) := by decide +kernel
theorem dX10_play_17 : decode cX10_play 17 = .ok (.invokevirtual 191, 3) := by decide +kernel
theorem dX10_play_20 : decode cX10_play 20 = .ok (.ifCond .eq 6, 3) := by decide +kernel
theorem dX10_play_23 : decode cX10_play 23 = .ok (.bipush (-2), 2) := by decide +kernel
theorem dX10_play_25 : decode cX10_play 25 = .ok (.ireturn, 1) := by decide +kernel
theorem dX10_play_26 : decode cX10_play 26 = .ok (.aload_n 0, 1) := by decide +kernel
theorem dX10_play_27 : decode cX10_play 27 = .ok (.getfield 44, 3) := by decide +kernel
theorem dX10_play_30 : decode cX10_play 30 = .ok (.getfield 194, 3) := by decide +kernel
theorem dX10_play_33 : decode cX10_play 33 = .ok (.istore_n 1, 1) := by decide +kernel
theorem dX10_play_34 : decode cX10_play 34 = .ok (.aload_n 0, 1) := by decide +kernel
theorem dX10_play_35 : decode cX10_play 35 = .ok (.getfield 44, 3) := by decide +kernel
theorem dX10_play_38 : decode cX10_play 38 = .ok (.iconst 0, 1) := by decide +kernel
theorem dX10_play_39 : decode cX10_play 39 = .ok (.iconst 0, 1) := by decide +kernel
theorem dX10_play_40 : decode cX10_play 40 = .ok (.iconst 0, 1) := by decide +kernel
theorem dX10_play_41 : decode cX10_play 41 = .ok (.invokevirtual 197, 3) := by decide +kernel
theorem dX10_play_44 : decode cX10_play 44 = .ok (.aload_n 0, 1) := by decide +kernel
theorem dX10_play_45 : decode cX10_play 45 = .ok (.getfield 44, 3) := by decide +kernel
theorem dX10_play_48 : decode cX10_play 48 = .ok (.iload_n 1, 1) := by decide +kernel
theorem dX10_play_49 : decode cX10_play 49 = .ok (.invokevirtual 200, 3) := by decide +kernel
theorem dX10_play_52 : decode cX10_play 52 = .ok (.ireturn, 1) := by decide +kernel
theorem dX10_slip_0 : decode cX10_slip 0 = .ok (.aload_n 0, 1) := by decide +kernel
theorem dX10_slip_1 : decode cX10_slip 1 = .ok (.getfield 35, 3) := by decide +kernel
theorem dX10_slip_4 : decode cX10_slip 4 = .ok (.iload_n 1, 1) := by decide +kernel
theorem dX10_slip_5 : decode cX10_slip 5 = .ok (.invokevirtual 174, 3) := by decide +kernel
theorem dX10_slip_8 : decode cX10_slip 8 = .ok (.ifCond .eq 13, 3) := by decide +kernel
theorem dX10_slip_11 : decode cX10_slip 11 = .ok (.iload_n 2, 1) := by decide +kernel
theorem dX10_slip_12 : decode cX10_slip 12 = .ok (.iconst (-1), 1) := by decide +kernel
theorem dX10_slip_13 : decode cX10_slip 13 = .ok (.if_icmp .eq 10, 3) := by decide +kernel
theorem dX10_slip_16 : decode cX10_slip 16 = .ok (.iload_n 2, 1) := by decide +kernel
theorem dX10_slip_17 : decode cX10_slip 17 = .ok (.iconst 1, 1) := by decide +kernel
theorem dX10_slip_18 : decode cX10_slip 18 = .ok (.if_icmp .eq 5, 3) := by decide +kernel
theorem dX10_slip_21 : decode cX10_slip 21 = .ok (.iconst (-1), 1) := by decide +kernel
theorem dX10_slip_22 : decode cX10_slip 22 = .ok (.ireturn, 1) := by decide +kernel
theorem dX10_slip_23 : decode cX10_slip 23 = .ok (.aload_n 0, 1) := by decide +kernel
theorem dX10_slip_24 : decode cX10_slip 24 = .ok (.getfield 44, 3) := by decide +kernel
theorem dX10_slip_27 : decode cX10_slip 27 = .ok (.iload_n 1, 1) := by decide +kernel
theorem dX10_slip_28 : decode cX10_slip 28 = .ok (.iload_n 2, 1) := by decide +kernel
theorem dX10_slip_29 : decode cX10_slip 29 = .ok (.invokevirtual 203, 3) := by decide +kernel
theorem dX10_slip_32 : decode cX10_slip 32 = .ok (.ifCond .ne 6, 3) := by decide +kernel
theorem dX10_slip_35 : decode cX10_slip 35 = .ok (.bipush (-4), 2) := by decide +kernel
theorem dX10_slip_37 : decode cX10_slip 37 = .ok (.ireturn, 1) := by decide +kernel
theorem dX10_slip_38 : decode cX10_slip 38 = .ok (.aload_n 0, 1) := by decide +kernel
theorem dX10_slip_39 : decode cX10_slip 39 = .ok (.getfield 44, 3) := by decide +kernel
theorem dX10_slip_42 : decode cX10_slip 42 = .ok (.invokevirtual 191, 3) := by decide +kernel
theorem dX10_slip_45 : decode cX10_slip 45 = .ok (.ifCond .eq 6, 3) := by decide +kernel
theorem dX10_slip_48 : decode cX10_slip 48 = .ok (.bipush (-2), 2) := by decide +kernel
theorem dX10_slip_50 : decode cX10_slip 50 = .ok (.ireturn, 1) := by decide +kernel
theorem dX10_slip_51 : decode cX10_slip 51 = .ok (.aload_n 0, 1) := by decide +kernel
theorem dX10_slip_52 : decode cX10_slip 52 = .ok (.getfield 44, 3) := by decide +kernel
theorem dX10_slip_55 : decode cX10_slip 55 = .ok (.iconst 1, 1) := by decide +kernel
theorem dX10_slip_56 : decode cX10_slip 56 = .ok (.iload_n 1, 1) := by decide +kernel
theorem dX10_slip_57 : decode cX10_slip 57 = .ok (.iload_n 2, 1) := by decide +kernel
theorem dX10_slip_58 : decode cX10_slip 58 = .ok (.iconst 1, 1) := by decide +kernel
theorem dX10_slip_59 : decode cX10_slip 59 = .ok (.iadd, 1) := by decide +kernel
theorem dX10_slip_60 : decode cX10_slip 60 = .ok (.invokevirtual 197, 3) := by decide +kernel
theorem dX10_slip_63 : decode cX10_slip 63 = .ok (.aload_n 0, 1) := by decide +kernel
theorem dX10_slip_64 : decode cX10_slip 64 = .ok (.getfield 44, 3) := by decide +kernel
theorem dX10_slip_67 : decode cX10_slip 67 = .ok (.iload_n 1, 1) := by decide +kernel
theorem dX10_slip_68 : decode cX10_slip 68 = .ok (.invokevirtual 206, 3) := by decide +kernel
theorem dX10_slip_71 : decode cX10_slip 71 = .ok (.iconst 2, 1) := by decide +kernel
theorem dX10_slip_72 : decode cX10_slip 72 = .ok (.iadd, 1) := by decide +kernel
theorem dX10_slip_73 : decode cX10_slip 73 = .ok (.ireturn, 1) := by decide +kernel
theorem dX10_jump_0 : decode cX10_jump 0 = .ok (.aload_n 0, 1) := by decide +kernel
theorem dX10_jump_1 : decode cX10_jump 1 = .ok (.getfield 35, 3) := by decide +kernel
theorem dX10_jump_4 : decode cX10_jump 4 = .ok (.iload_n 1, 1) := by decide +kernel
theorem dX10_jump_5 : decode cX10_jump 5 = .ok (.invokevirtual 174, 3) := by decide +kernel
theorem dX10_jump_8 : decode cX10_jump 8 = .ok (.ifCond .eq 19, 3) := by decide +kernel
theorem dX10_jump_11 : decode cX10_jump 11 = .ok (.aload_n 0, 1) := by decide +kernel
theorem dX10_jump_12 : decode cX10_jump 12 = .ok (.getfield 35, 3) := by decide +kernel
theorem dX10_jump_15 : decode cX10_jump 15 = .ok (.iload_n 2, 1) := by decide +kernel
theorem dX10_jump_16 : decode cX10_jump 16 = .ok (.invokevirtual 174, 3) := by decide +kernel
theorem dX10_jump_19 : decode cX10_jump 19 = .ok (.ifCond .eq 8, 3) := by decide +kernel
theorem dX10_jump_22 : decode cX10_jump 22 = .ok (.iload_n 1, 1) := by decide +kernel
theorem dX10_jump_23 : decode cX10_jump 23 = .ok (.iload_n 2, 1) := by decide +kernel
theorem dX10_jump_24 : decode cX10_jump 24 = .ok (.if_icmp .ne 5, 3) := by decide +kernel
theorem dX10_jump_27 : decode cX10_jump 27 = .ok (.iconst (-1), 1) := by decide +kernel
theorem dX10_jump_28 : decode cX10_jump 28 = .ok (.ireturn, 1) := by decide +kernel
theorem dX10_jump_29 : decode cX10_jump 29 = .ok (.aload_n 0, 1) := by decide +kernel
theorem dX10_jump_30 : decode cX10_jump 30 = .ok (.getfield 44, 3) := by decide +kernel
theorem dX10_jump_33 : decode cX10_jump 33 = .ok (.invokevirtual 191, 3) := by decide +kernel
theorem dX10_jump_36 : decode cX10_jump 36 = .ok (.ifCond .eq 6, 3) := by decide +kernel
theorem dX10_jump_39 : decode cX10_jump 39 = .ok (.bipush (-2), 2) := by decide +kernel
theorem dX10_jump_41 : decode cX10_jump 41 = .ok (.ireturn, 1) := by decide +kernel
theorem dX10_jump_42 : decode cX10_jump 42 = .ok (.aload_n 0, 1) := by decide +kernel
theorem dX10_jump_43 : decode cX10_jump 43 = .ok (.getfield 44, 3) := by decide +kernel
theorem dX10_jump_46 : decode cX10_jump 46 = .ok (.iload_n 1, 1) := by decide +kernel
theorem dX10_jump_47 : decode cX10_jump 47 = .ok (.invokevirtual 206, 3) := by decide +kernel
theorem dX10_jump_50 : decode cX10_jump 50 = .ok (.istore_n 3, 1) := by decide +kernel
theorem dX10_jump_51 : decode cX10_jump 51 = .ok (.aload_n 0, 1) := by decide +kernel
theorem dX10_jump_52 : decode cX10_jump 52 = .ok (.getfield 44, 3) := by decide +kernel
theorem dX10_jump_55 : decode cX10_jump 55 = .ok (.iconst 2, 1) := by decide +kernel
theorem dX10_jump_56 : decode cX10_jump 56 = .ok (.iload_n 1, 1) := by decide +kernel
theorem dX10_jump_57 : decode cX10_jump 57 = .ok (.iload_n 2, 1) := by decide +kernel
theorem dX10_jump_58 : decode cX10_jump 58 = .ok (.invokevirtual 197, 3) := by decide +kernel
theorem dX10_jump_61 : decode cX10_jump 61 = .ok (.aload_n 0, 1) := by decide +kernel
theorem dX10_jump_62 : decode cX10_jump 62 = .ok (.getfield 44, 3) := by decide +kernel
theorem dX10_jump_65 : decode cX10_jump 65 = .ok (.iload_n 1, 1) := by decide +kernel
theorem dX10_jump_66 : decode cX10_jump 66 = .ok (.invokevirtual 206, 3) := by decide +kernel
theorem dX10_jump_69 : decode cX10_jump 69 = .ok (.iload_n 3, 1) := by decide +kernel
theorem dX10_jump_70 : decode cX10_jump 70 = .ok (.isub, 1) := by decide +kernel
theorem dX10_jump_71 : decode cX10_jump 71 = .ok (.iconst 4, 1) := by decide +kernel
theorem dX10_jump_72 : decode cX10_jump 72 = .ok (.iadd, 1) := by decide +kernel
theorem dX10_jump_73 : decode cX10_jump 73 = .ok (.ireturn, 1) := by decide +kernel
theorem dX10_anew_0 : decode cX10_anew 0 = .ok (.aload_n 0, 1) := by decide +kernel
theorem dX10_anew_1 : decode cX10_anew 1 = .ok (.getfield 35, 3) := by decide +kernel
theorem dX10_anew_4 : decode cX10_anew 4 = .ok (.iload_n 1, 1) := by decide +kernel
theorem dX10_anew_5 : decode cX10_anew 5 = .ok (.invokevirtual 209, 3) := by decide +kernel
theorem dX10_anew_8 : decode cX10_anew 8 = .ok (.istore_n 2, 1) := by decide +kernel
theorem dX10_anew_9 : decode cX10_anew 9 = .ok (.iload_n 2, 1) := by decide +kernel
theorem dX10_anew_10 : decode cX10_anew 10 = .ok (.bipush (-9), 2) := by decide +kernel
theorem dX10_anew_12 : decode cX10_anew 12 = .ok (.if_icmp .ne 5, 3) := by decide +kernel
theorem dX10_anew_15 : decode cX10_anew 15 = .ok (.iconst (-1), 1) := by decide +kernel
theorem dX10_anew_16 : decode cX10_anew 16 = .ok (.ireturn, 1) := by decide +kernel
theorem dX10_anew_17 : decode cX10_anew 17 = .ok (.aload_n 0, 1) := by decide +kernel
theorem dX10_anew_18 : decode cX10_anew 18 = .ok (.getfield 44, 3) := by decide +kernel
theorem dX10_anew_21 : decode cX10_anew 21 = .ok (.invokevirtual 191, 3) := by decide +kernel
theorem dX10_anew_24 : decode cX10_anew 24 = .ok (.ifCond .eq 6, 3) := by decide +kernel
theorem dX10_anew_27 : decode cX10_anew 27 = .ok (.bipush (-2), 2) := by decide +kernel
theorem dX10_anew_29 : decode cX10_anew 29 = .ok (.ireturn, 1) := by decide +kernel
theorem dX10_anew_30 : decode cX10_anew 30 = .ok (.aload_n 0, 1) := by decide +kernel
theorem dX10_anew_31 : decode cX10_anew 31 = .ok (.getfield 44, 3) := by decide +kernel
theorem dX10_anew_34 : decode cX10_anew 34 = .ok (.iconst 3, 1) := by decide +kernel
theorem dX10_anew_35 : decode cX10_anew 35 = .ok (.iconst 0, 1) := by decide +kernel
theorem dX10_anew_36 : decode cX10_anew 36 = .ok (.iload_n 2, 1) := by decide +kernel
theorem dX10_anew_37 : decode cX10_anew 37 = .ok (.invokevirtual 197, 3) := by decide +kernel
theorem dX10_anew_40 : decode cX10_anew 40 = .ok (.iload_n 2, 1) := by decide +kernel
theorem dX10_anew_41 : decode cX10_anew 41 = .ok (.ireturn, 1) := by decide +kernel
theorem dX10_undo_0 : decode cX10_undo 0 = .ok (.iload_n 1, 1) := by decide +kernel
theorem dX10_undo_1 : decode cX10_undo 1 = .ok (.ifCond .lt 14, 3) := by decide +kernel
theorem dX10_undo_4 : decode cX10_undo 4 = .ok (.iload_n 1, 1) := by decide +kernel
theorem dX10_undo_5 : decode cX10_undo 5 = .ok (.aload_n 0, 1) := by decide +kernel
theorem dX10_undo_6 : decode cX10_undo 6 = .ok (.getfield 44, 3) := by decide +kernel
theorem dX10_undo_9 : decode cX10_undo 9 = .ok (.getfield 212, 3) := by decide +kernel
theorem dX10_undo_12 : decode cX10_undo 12 = .ok (.if_icmp .le 5, 3) := by decide +kernel
theorem dX10_undo_15 : decode cX10_undo 15 = .ok (.iconst (-1), 1) := by decide +kernel
theorem dX10_undo_16 : decode cX10_undo 16 = .ok (.ireturn, 1) := by decide +kernel
theorem dX10_undo_17 : decode cX10_undo 17 = .ok (.aload_n 0, 1) := by decide +kernel
theorem dX10_undo_18 : decode cX10_undo 18 = .ok (.getfield 44, 3) := by decide +kernel
theorem dX10_undo_21 : decode cX10_undo 21 = .ok (.getfield 212, 3) := by decide +kernel
theorem dX10_undo_24 : decode cX10_undo 24 = .ok (.iload_n 1, 1) := by decide +kernel
theorem dX10_undo_25 : decode cX10_undo 25 = .ok (.isub, 1) := by decide +kernel
theorem dX10_undo_26 : decode cX10_undo 26 = .ok (.istore_n 2, 1) := by decide +kernel
theorem dX10_undo_27 : decode cX10_undo 27 = .ok (.aload_n 0, 1) := by decide +kernel
theorem dX10_undo_28 : decode cX10_undo 28 = .ok (.getfield 44, 3) := by decide +kernel
theorem dX10_undo_31 : decode cX10_undo 31 = .ok (.iload_n 1, 1) := by decide +kernel
theorem dX10_undo_32 : decode cX10_undo 32 = .ok (.invokevirtual 158, 3) := by decide +kernel
theorem dX10_undo_35 : decode cX10_undo 35 = .ok (.iload_n 2, 1) := by decide +kernel
theorem dX10_undo_36 : decode cX10_undo 36 = .ok (.ireturn, 1) := by decide +kernel
theorem dX10_here_0 : decode cX10_here 0 = .ok (.aload_n 0, 1) := by decide +kernel
theorem dX10_here_1 : decode cX10_here 1 = .ok (.getfield 35, 3) := by decide +kernel
theorem dX10_here_4 : decode cX10_here 4 = .ok (.invokevirtual 215, 3) := by decide +kernel
theorem dX10_here_7 : decode cX10_here 7 = .ok (.ifCond .eq 6, 3) := by decide +kernel
theorem dX10_here_10 : decode cX10_here 10 = .ok (.bipush (-4), 2) := by decide +kernel
theorem dX10_here_12 : decode cX10_here 12 = .ok (.ireturn, 1) := by decide +kernel
theorem dX10_here_13 : decode cX10_here 13 = .ok (.aload_n 0, 1) := by decide +kernel
theorem dX10_here_14 : decode cX10_here 14 = .ok (.aload_n 0, 1) := by decide +kernel
theorem dX10_here_15 : decode cX10_here 15 = .ok (.getfield 44, 3) := by decide +kernel
theorem dX10_here_18 : decode cX10_here 18 = .ok (.getfield 194, 3) := by decide +kernel
theorem dX10_here_21 : decode cX10_here 21 = .ok (.aload_n 0, 1) := by decide +kernel
theorem dX10_here_22 : decode cX10_here 22 = .ok (.getfield 44, 3) := by decide +kernel
theorem dX10_here_25 : decode cX10_here 25 = .ok (.getfield 218, 3) := by decide +kernel
theorem dX10_here_28 : decode cX10_here 28 = .ok (.isub, 1) := by decide +kernel
theorem dX10_here_29 : decode cX10_here 29 = .ok (.putfield 111, 3) := by decide +kernel
theorem dX10_here_32 : decode cX10_here 32 = .ok (.aload_n 0, 1) := by decide +kernel
theorem dX10_here_33 : decode cX10_here 33 = .ok (.getfield 44, 3) := by decide +kernel
theorem dX10_here_36 : decode cX10_here 36 = .ok (.getfield 194, 3) := by decide +kernel
theorem dX10_here_39 : decode cX10_here 39 = .ok (.ireturn, 1) := by decide +kernel
theorem dX10_out_0 : decode cX10_out 0 = .ok (.aload_n 0, 1) := by decide +kernel
theorem dX10_out_1 : decode cX10_out 1 = .ok (.getfield 35, 3) := by decide +kernel
theorem dX10_out_4 : decode cX10_out 4 = .ok (.iload_n 1, 1) := by decide +kernel
theorem dX10_out_5 : decode cX10_out 5 = .ok (.invokevirtual 174, 3) := by decide +kernel
theorem dX10_out_8 : decode cX10_out 8 = .ok (.ifCond .ne 5, 3) := by decide +kernel
theorem dX10_out_11 : decode cX10_out 11 = .ok (.iconst (-1), 1) := by decide +kernel
theorem dX10_out_12 : decode cX10_out 12 = .ok (.ireturn, 1) := by decide +kernel
theorem dX10_out_13 : decode cX10_out 13 = .ok (.aload_n 0, 1) := by decide +kernel
theorem dX10_out_14 : decode cX10_out 14 = .ok (.getfield 44, 3) := by decide +kernel
theorem dX10_out_17 : decode cX10_out 17 = .ok (.iload_n 1, 1) := by decide +kernel
theorem dX10_out_18 : decode cX10_out 18 = .ok (.invokevirtual 206, 3) := by decide +kernel
theorem dX10_out_21 : decode cX10_out 21 = .ok (.iconst 2, 1) := by decide +kernel
theorem dX10_out_22 : decode cX10_out 22 = .ok (.iadd, 1) := by decide +kernel
theorem dX10_out_23 : decode cX10_out 23 = .ok (.ireturn, 1) := by decide +kernel
theorem dX10_hear_0 : decode cX10_hear 0 = .ok (.aload_n 0, 1) := by decide +kernel
theorem dX10_hear_1 : decode cX10_hear 1 = .ok (.getfield 44, 3) := by decide +kernel
theorem dX10_hear_4 : decode cX10_hear 4 = .ok (.invokevirtual 187, 3) := by decide +kernel
theorem dX10_hear_7 : decode cX10_hear 7 = .ok (.ifCond .eq 6, 3) := by decide +kernel
theorem dX10_hear_10 : decode cX10_hear 10 = .ok (.bipush (-4), 2) := by decide +kernel
theorem dX10_hear_12 : decode cX10_hear 12 = .ok (.ireturn, 1) := by decide +kernel
theorem dX10_hear_13 : decode cX10_hear 13 = .ok (.aload_n 0, 1) := by decide +kernel
theorem dX10_hear_14 : decode cX10_hear 14 = .ok (.getfield 35, 3) := by decide +kernel
theorem dX10_hear_17 : decode cX10_hear 17 = .ok (.aload_n 0, 1) := by decide +kernel
theorem dX10_hear_18 : decode cX10_hear 18 = .ok (.getfield 44, 3) := by decide +kernel
theorem dX10_hear_21 : decode cX10_hear 21 = .ok (.getfield 194, 3) := by decide +kernel
theorem dX10_hear_24 : decode cX10_hear 24 = .ok (.aload_n 0, 1) := by decide +kernel
theorem dX10_hear_25 : decode cX10_hear 25 = .ok (.getfield 44, 3) := by decide +kernel
theorem dX10_hear_28 : decode cX10_hear 28 = .ok (.getfield 221, 3) := by decide +kernel
theorem dX10_hear_31 : decode cX10_hear 31 = .ok (.invokevirtual 224, 3) := by decide +kernel
theorem dX10_hear_34 : decode cX10_hear 34 = .ok (.ireturn, 1) := by decide +kernel
theorem dX10_heard_0 : decode cX10_heard 0 = .ok (.aload_n 0, 1) := by decide +kernel
theorem dX10_heard_1 : decode cX10_heard 1 = .ok (.getfield 10, 3) := by decide +kernel
theorem dX10_heard_4 : decode cX10_heard 4 = .ok (.getfield 86, 3) := by decide +kernel
theorem dX10_heard_7 : decode cX10_heard 7 = .ok (.iload_n 1, 1) := by decide +kernel
theorem dX10_heard_8 : decode cX10_heard 8 = .ok (.invokevirtual 90, 3) := by decide +kernel
theorem dX10_heard_11 : decode cX10_heard 11 = .ok (.ifCond .ne 5, 3) := by decide +kernel
theorem dX10_heard_14 : decode cX10_heard 14 = .ok (.iconst (-1), 1) := by decide +kernel
theorem dX10_heard_15 : decode cX10_heard 15 = .ok (.ireturn, 1) := by decide +kernel
theorem dX10_heard_16 : decode cX10_heard 16 = .ok (.aload_n 0, 1) := by decide +kernel
theorem dX10_heard_17 : decode cX10_heard 17 = .ok (.getfield 44, 3) := by decide +kernel
theorem dX10_heard_20 : decode cX10_heard 20 = .ok (.getfield 194, 3) := by decide +kernel
theorem dX10_heard_23 : decode cX10_heard 23 = .ok (.aload_n 0, 1) := by decide +kernel
theorem dX10_heard_24 : decode cX10_heard 24 = .ok (.getfield 44, 3) := by decide +kernel
theorem dX10_heard_27 : decode cX10_heard 27 = .ok (.getfield 218, 3) := by decide +kernel
theorem dX10_heard_30 : decode cX10_heard 30 = .ok (.isub, 1) := by decide +kernel
theorem dX10_heard_31 : decode cX10_heard 31 = .ok (.istore_n 2, 1) := by decide +kernel
theorem dX10_heard_32 : decode cX10_heard 32 = .ok (.aload_n 0, 1) := by decide +kernel
theorem dX10_heard_33 : decode cX10_heard 33 = .ok (.getfield 10, 3) := by decide +kernel
theorem dX10_heard_36 : decode cX10_heard 36 = .ok (.iload_n 1, 1) := by decide +kernel
theorem dX10_heard_37 : decode cX10_heard 37 = .ok (.iload_n 2, 1) := by decide +kernel
theorem dX10_heard_38 : decode cX10_heard 38 = .ok (.invokevirtual 100, 3) := by decide +kernel
theorem dX10_heard_41 : decode cX10_heard 41 = .ok (.iconst 0, 1) := by decide +kernel
theorem dX10_heard_42 : decode cX10_heard 42 = .ok (.istore_n 3, 1) := by decide +kernel
theorem dX10_heard_43 : decode cX10_heard 43 = .ok (.iload_n 3, 1) := by decide +kernel
theorem dX10_heard_44 : decode cX10_heard 44 = .ok (.iload_n 2, 1) := by decide +kernel
theorem dX10_heard_45 : decode cX10_heard 45 = .ok (.if_icmp .ge 34, 3) := by decide +kernel
theorem dX10_heard_48 : decode cX10_heard 48 = .ok (.aload_n 0, 1) := by decide +kernel
theorem dX10_heard_49 : decode cX10_heard 49 = .ok (.getfield 10, 3) := by decide +kernel
theorem dX10_heard_52 : decode cX10_heard 52 = .ok (.iload_n 1, 1) := by decide +kernel
theorem dX10_heard_53 : decode cX10_heard 53 = .ok (.iload_n 3, 1) := by decide +kernel
theorem dX10_heard_54 : decode cX10_heard 54 = .ok (.aload_n 0, 1) := by decide +kernel
theorem dX10_heard_55 : decode cX10_heard 55 = .ok (.getfield 44, 3) := by decide +kernel
theorem dX10_heard_58 : decode cX10_heard 58 = .ok (.aload_n 0, 1) := by decide +kernel
theorem dX10_heard_59 : decode cX10_heard 59 = .ok (.getfield 44, 3) := by decide +kernel
theorem dX10_heard_62 : decode cX10_heard 62 = .ok (.getfield 218, 3) := by decide +kernel
theorem dX10_heard_65 : decode cX10_heard 65 = .ok (.iload_n 3, 1) := by decide +kernel
theorem dX10_heard_66 : decode cX10_heard 66 = .ok (.iadd, 1) := by decide +kernel
theorem dX10_heard_67 : decode cX10_heard 67 = .ok (.invokevirtual 200, 3) := by decide +kernel
theorem dX10_heard_70 : decode cX10_heard 70 = .ok (.invokevirtual 115, 3) := by decide +kernel
theorem dX10_heard_73 : decode cX10_heard 73 = .ok (.iinc 3 1, 3) := by decide +kernel
theorem dX10_heard_76 : decode cX10_heard 76 = .ok (.goto (-33), 3) := by decide +kernel
theorem dX10_heard_79 : decode cX10_heard 79 = .ok (.iload_n 2, 1) := by decide +kernel
theorem dX10_heard_80 : decode cX10_heard 80 = .ok (.ireturn, 1) := by decide +kernel
theorem dX10_image_0 : decode cX10_image 0 = .ok (.aload_n 0, 1) := by decide +kernel
theorem dX10_image_1 : decode cX10_image 1 = .ok (.getfield 51, 3) := by decide +kernel
theorem dX10_image_4 : decode cX10_image 4 = .ok (.getfield 161, 3) := by decide +kernel
theorem dX10_image_7 : decode cX10_image 7 = .ok (.iload_n 1, 1) := by decide +kernel
theorem dX10_image_8 : decode cX10_image 8 = .ok (.invokevirtual 90, 3) := by decide +kernel
theorem dX10_image_11 : decode cX10_image 11 = .ok (.ifCond .ne 5, 3) := by decide +kernel
theorem dX10_image_14 : decode cX10_image 14 = .ok (.iconst (-1), 1) := by decide +kernel
theorem dX10_image_15 : decode cX10_image 15 = .ok (.ireturn, 1) := by decide +kernel
theorem dX10_image_16 : decode cX10_image 16 = .ok (.aload_n 0, 1) := by decide +kernel
theorem dX10_image_17 : decode cX10_image 17 = .ok (.getfield 35, 3) := by decide +kernel
theorem dX10_image_20 : decode cX10_image 20 = .ok (.invokevirtual 215, 3) := by decide +kernel
theorem dX10_image_23 : decode cX10_image 23 = .ok (.ifCond .eq 6, 3) := by decide +kernel
theorem dX10_image_26 : decode cX10_image 26 = .ok (.bipush (-4), 2) := by decide +kernel
