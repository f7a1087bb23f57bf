theorem dX12_asks_61 : decode cX12_asks 61 = .ok (.istore 6, 2) := by decide +kernel
theorem dX12_asks_63 : decode cX12_asks 63 = .ok (.iload 6, 2) := by decide +kernel
theorem dX12_asks_65 : decode cX12_asks 65 = .ok (.iload 4, 2) := by decide +kernel
theorem dX12_asks_67 : decode cX12_asks 67 = .ok (.if_icmp .ge 127, 3) := by decide +kernel
theorem dX12_asks_70 : decode cX12_asks 70 = .ok (.iload_n 3, 1) := by decide +kernel
theorem dX12_asks_71 : decode cX12_asks 71 = .ok (.i2l, 1) := by decide +kernel
theorem dX12_asks_72 : decode cX12_asks 72 = .ok (.ldc2_w 44, 3) := by decide +kernel
theorem dX12_asks_75 : decode cX12_asks 75 = .ok (.iload 6, 2) := by decide +kernel
theorem dX12_asks_77 : decode cX12_asks 77 = .ok (.i2l, 1) := by decide +kernel
theorem dX12_asks_78 : decode cX12_asks 78 = .ok (.lmul, 1) := by decide +kernel
theorem dX12_asks_79 : decode cX12_asks 79 = .ok (.ladd, 1) := by decide +kernel
theorem dX12_asks_80 : decode cX12_asks 80 = .ok (.lstore 7, 2) := by decide +kernel
theorem dX12_asks_82 : decode cX12_asks 82 = .ok (.lload 7, 2) := by decide +kernel
theorem dX12_asks_84 : decode cX12_asks 84 = .ok (.lconst 0, 1) := by decide +kernel
theorem dX12_asks_85 : decode cX12_asks 85 = .ok (.lcmp, 1) := by decide +kernel
theorem dX12_asks_86 : decode cX12_asks 86 = .ok (.ifCond .lt 20, 3) := by decide +kernel
theorem dX12_asks_89 : decode cX12_asks 89 = .ok (.lload 7, 2) := by decide +kernel
theorem dX12_asks_91 : decode cX12_asks 91 = .ok (.ldc2_w 44, 3) := by decide +kernel
theorem dX12_asks_94 : decode cX12_asks 94 = .ok (.ladd, 1) := by decide +kernel
theorem dX12_asks_95 : decode cX12_asks 95 = .ok (.aload_n 0, 1) := by decide +kernel
theorem dX12_asks_96 : decode cX12_asks 96 = .ok (.getfield 116, 3) := by decide +kernel
theorem dX12_asks_99 : decode cX12_asks 99 = .ok (.iload_n 1, 1) := by decide +kernel
theorem dX12_asks_100 : decode cX12_asks 100 = .ok (.iaload, 1) := by decide +kernel
theorem dX12_asks_101 : decode cX12_asks 101 = .ok (.i2l, 1) := by decide +kernel
theorem dX12_asks_102 : decode cX12_asks 102 = .ok (.lcmp, 1) := by decide +kernel
theorem dX12_asks_103 : decode cX12_asks 103 = .ok (.ifCond .le 6, 3) := by decide +kernel
theorem dX12_asks_106 : decode cX12_asks 106 = .ok (.bipush (-12), 2) := by decide +kernel
theorem dX12_asks_108 : decode cX12_asks 108 = .ok (.ireturn, 1) := by decide +kernel
theorem dX12_asks_109 : decode cX12_asks 109 = .ok (.bipush 40, 2) := by decide +kernel
theorem dX12_asks_111 : decode cX12_asks 111 = .ok (.iload_n 1, 1) := by decide +kernel
theorem dX12_asks_112 : decode cX12_asks 112 = .ok (.imul, 1) := by decide +kernel
theorem dX12_asks_113 : decode cX12_asks 113 = .ok (.lload 7, 2) := by decide +kernel
theorem dX12_asks_115 : decode cX12_asks 115 = .ok (.l2i, 1) := by decide +kernel
theorem dX12_asks_116 : decode cX12_asks 116 = .ok (.iadd, 1) := by decide +kernel
theorem dX12_asks_117 : decode cX12_asks 117 = .ok (.istore 9, 2) := by decide +kernel
theorem dX12_asks_119 : decode cX12_asks 119 = .ok (.iload 5, 2) := by decide +kernel
theorem dX12_asks_121 : decode cX12_asks 121 = .ok (.aload_n 0, 1) := by decide +kernel
theorem dX12_asks_122 : decode cX12_asks 122 = .ok (.aload_n 0, 1) := by decide +kernel
theorem dX12_asks_123 : decode cX12_asks 123 = .ok (.getfield 119, 3) := by decide +kernel
theorem dX12_asks_126 : decode cX12_asks 126 = .ok (.iload 9, 2) := by decide +kernel
theorem dX12_asks_128 : decode cX12_asks 128 = .ok (.iaload, 1) := by decide +kernel
theorem dX12_asks_129 : decode cX12_asks 129 = .ok (.aload_n 0, 1) := by decide +kernel
theorem dX12_asks_130 : decode cX12_asks 130 = .ok (.getfield 119, 3) := by decide +kernel
theorem dX12_asks_133 : decode cX12_asks 133 = .ok (.iload 9, 2) := by decide +kernel
theorem dX12_asks_135 : decode cX12_asks 135 = .ok (.iconst 1, 1) := by decide +kernel
theorem dX12_asks_136 : decode cX12_asks 136 = .ok (.iadd, 1) := by decide +kernel
theorem dX12_asks_137 : decode cX12_asks 137 = .ok (.iaload, 1) := by decide +kernel
theorem dX12_asks_138 : decode cX12_asks 138 = .ok (.aload_n 0, 1) := by decide +kernel
theorem dX12_asks_139 : decode cX12_asks 139 = .ok (.getfield 119, 3) := by decide +kernel
theorem dX12_asks_142 : decode cX12_asks 142 = .ok (.iload 9, 2) := by decide +kernel
theorem dX12_asks_144 : decode cX12_asks 144 = .ok (.iconst 2, 1) := by decide +kernel
theorem dX12_asks_145 : decode cX12_asks 145 = .ok (.iadd, 1) := by decide +kernel
theorem dX12_asks_146 : decode cX12_asks 146 = .ok (.iaload, 1) := by decide +kernel
theorem dX12_asks_147 : decode cX12_asks 147 = .ok (.aload_n 0, 1) := by decide +kernel
theorem dX12_asks_148 : decode cX12_asks 148 = .ok (.getfield 119, 3) := by decide +kernel
theorem dX12_asks_151 : decode cX12_asks 151 = .ok (.iload 9, 2) := by decide +kernel
theorem dX12_asks_153 : decode cX12_asks 153 = .ok (.iconst 3, 1) := by decide +kernel
theorem dX12_asks_154 : decode cX12_asks 154 = .ok (.iadd, 1) := by decide +kernel
theorem dX12_asks_155 : decode cX12_asks 155 = .ok (.iaload, 1) := by decide +kernel
theorem dX12_asks_156 : decode cX12_asks 156 = .ok (.aload_n 0, 1) := by decide +kernel
theorem dX12_asks_157 : decode cX12_asks 157 = .ok (.getfield 119, 3) := by decide +kernel
theorem dX12_asks_160 : decode cX12_asks 160 = .ok (.iload 9, 2) := by decide +kernel
theorem dX12_asks_162 : decode cX12_asks 162 = .ok (.iconst 4, 1) := by decide +kernel
theorem dX12_asks_163 : decode cX12_asks 163 = .ok (.iadd, 1) := by decide +kernel
theorem dX12_asks_164 : decode cX12_asks 164 = .ok (.iaload, 1) := by decide +kernel
theorem dX12_asks_165 : decode cX12_asks 165 = .ok (.aload_n 0, 1) := by decide +kernel
theorem dX12_asks_166 : decode cX12_asks 166 = .ok (.getfield 119, 3) := by decide +kernel
theorem dX12_asks_169 : decode cX12_asks 169 = .ok (.iload 9, 2) := by decide +kernel
theorem dX12_asks_171 : decode cX12_asks 171 = .ok (.iconst 5, 1) := by decide +kernel
theorem dX12_asks_172 : decode cX12_asks 172 = .ok (.iadd, 1) := by decide +kernel
theorem dX12_asks_173 : decode cX12_asks 173 = .ok (.iaload, 1) := by decide +kernel
theorem dX12_asks_174 : decode cX12_asks 174 = .ok (.invokevirtual 122, 3) := by decide +kernel
theorem dX12_asks_177 : decode cX12_asks 177 = .ok (.ifCond .lt 7, 3) := by decide +kernel
theorem dX12_asks_180 : decode cX12_asks 180 = .ok (.iconst 1, 1) := by decide +kernel
theorem dX12_asks_181 : decode cX12_asks 181 = .ok (.goto 4, 3) := by decide +kernel
theorem dX12_asks_184 : decode cX12_asks 184 = .ok (.iconst 0, 1) := by decide +kernel
theorem dX12_asks_185 : decode cX12_asks 185 = .ok (.iadd, 1) := by decide +kernel
theorem dX12_asks_186 : decode cX12_asks 186 = .ok (.istore 5, 2) := by decide +kernel
theorem dX12_asks_188 : decode cX12_asks 188 = .ok (.iinc 6 1, 3) := by decide +kernel
theorem dX12_asks_191 : decode cX12_asks 191 = .ok (.goto (-128), 3) := by decide +kernel
theorem dX12_asks_194 : decode cX12_asks 194 = .ok (.iload 5, 2) := by decide +kernel
theorem dX12_asks_196 : decode cX12_asks 196 = .ok (.ireturn, 1) := by decide +kernel
theorem dX12_told_0 : decode cX12_told 0 = .ok (.aload_n 0, 1) := by decide +kernel
theorem dX12_told_1 : decode cX12_told 1 = .ok (.iload_n 1, 1) := by decide +kernel
theorem dX12_told_2 : decode cX12_told 2 = .ok (.invokevirtual 126, 3) := by decide +kernel
theorem dX12_told_5 : decode cX12_told 5 = .ok (.ifCond .ne 6, 3) := by decide +kernel
theorem dX12_told_8 : decode cX12_told 8 = .ok (.bipush (-2), 2) := by decide +kernel
theorem dX12_told_10 : decode cX12_told 10 = .ok (.ireturn, 1) := by decide +kernel
theorem dX12_told_11 : decode cX12_told 11 = .ok (.iload_n 2, 1) := by decide +kernel
theorem dX12_told_12 : decode cX12_told 12 = .ok (.tableswitch 162 0 12 #[68, 75, 82, 89, 96, 103, 110, 120, 127, 134, 141, 148, 155], 68) := by decide +kernel
theorem dX12_told_80 : decode cX12_told 80 = .ok (.aload_n 0, 1) := by decide +kernel
theorem dX12_told_81 : decode cX12_told 81 = .ok (.getfield 82, 3) := by decide +kernel
theorem dX12_told_84 : decode cX12_told 84 = .ok (.iload_n 1, 1) := by decide +kernel
theorem dX12_told_85 : decode cX12_told 85 = .ok (.iaload, 1) := by decide +kernel
theorem dX12_told_86 : decode cX12_told 86 = .ok (.ireturn, 1) := by decide +kernel
theorem dX12_told_87 : decode cX12_told 87 = .ok (.aload_n 0, 1) := by decide +kernel
theorem dX12_told_88 : decode cX12_told 88 = .ok (.getfield 85, 3) := by decide +kernel
theorem dX12_told_91 : decode cX12_told 91 = .ok (.iload_n 1, 1) := by decide +kernel
theorem dX12_told_92 : decode cX12_told 92 = .ok (.iaload, 1) := by decide +kernel
theorem dX12_told_93 : decode cX12_told 93 = .ok (.ireturn, 1) := by decide +kernel
theorem dX12_told_94 : decode cX12_told 94 = .ok (.aload_n 0, 1) := by decide +kernel
theorem dX12_told_95 : decode cX12_told 95 = .ok (.getfield 88, 3) := by decide +kernel
theorem dX12_told_98 : decode cX12_told 98 = .ok (.iload_n 1, 1) := by decide +kernel
theorem dX12_told_99 : decode cX12_told 99 = .ok (.iaload, 1) := by decide +kernel
theorem dX12_told_100 : decode cX12_told 100 = .ok (.ireturn, 1) := by decide +kernel
theorem dX12_told_101 : decode cX12_told 101 = .ok (.aload_n 0, 1) := by decide +kernel
theorem dX12_told_102 : decode cX12_told 102 = .ok (.getfield 91, 3) := by decide +kernel
theorem dX12_told_105 : decode cX12_told 105 = .ok (.iload_n 1, 1) := by decide +kernel
theorem dX12_told_106 : decode cX12_told 106 = .ok (.iaload, 1) := by decide +kernel
theorem dX12_told_107 : decode cX12_told 107 = .ok (.ireturn, 1) := by decide +kernel
theorem dX12_told_108 : decode cX12_told 108 = .ok (.aload_n 0, 1) := by decide +kernel
theorem dX12_told_109 : decode cX12_told 109 = .ok (.getfield 94, 3) := by decide +kernel
theorem dX12_told_112 : decode cX12_told 112 = .ok (.iload_n 1, 1) := by decide +kernel
theorem dX12_told_113 : decode cX12_told 113 = .ok (.iaload, 1) := by decide +kernel
theorem dX12_told_114 : decode cX12_told 114 = .ok (.ireturn, 1) := by decide +kernel
theorem dX12_told_115 : decode cX12_told 115 = .ok (.aload_n 0, 1) := by decide +kernel
theorem dX12_told_116 : decode cX12_told 116 = .ok (.getfield 97, 3) := by decide +kernel
theorem dX12_told_119 : decode cX12_told 119 = .ok (.iload_n 1, 1) := by decide +kernel
theorem dX12_told_120 : decode cX12_told 120 = .ok (.iaload, 1) := by decide +kernel
theorem dX12_told_121 : decode cX12_told 121 = .ok (.ireturn, 1) := by decide +kernel
theorem dX12_told_122 : decode cX12_told 122 = .ok (.aload_n 0, 1) := by decide +kernel
theorem dX12_told_123 : decode cX12_told 123 = .ok (.getfield 82, 3) := by decide +kernel
theorem dX12_told_126 : decode cX12_told 126 = .ok (.iload_n 1, 1) := by decide +kernel
theorem dX12_told_127 : decode cX12_told 127 = .ok (.iaload, 1) := by decide +kernel
theorem dX12_told_128 : decode cX12_told 128 = .ok (.invokestatic 129, 3) := by decide +kernel
theorem dX12_told_131 : decode cX12_told 131 = .ok (.ireturn, 1) := by decide +kernel
theorem dX12_told_132 : decode cX12_told 132 = .ok (.aload_n 0, 1) := by decide +kernel
theorem dX12_told_133 : decode cX12_told 133 = .ok (.getfield 55, 3) := by decide +kernel
theorem dX12_told_136 : decode cX12_told 136 = .ok (.iload_n 1, 1) := by decide +kernel
theorem dX12_told_137 : decode cX12_told 137 = .ok (.iaload, 1) := by decide +kernel
theorem dX12_told_138 : decode cX12_told 138 = .ok (.ireturn, 1) := by decide +kernel
theorem dX12_told_139 : decode cX12_told 139 = .ok (.aload_n 0, 1) := by decide +kernel
theorem dX12_told_140 : decode cX12_told 140 = .ok (.iconst (-1), 1) := by decide +kernel
theorem dX12_told_141 : decode cX12_told 141 = .ok (.iload_n 1, 1) := by decide +kernel
theorem dX12_told_142 : decode cX12_told 142 = .ok (.invokevirtual 65, 3) := by decide +kernel
theorem dX12_told_145 : decode cX12_told 145 = .ok (.ireturn, 1) := by decide +kernel
theorem dX12_told_146 : decode cX12_told 146 = .ok (.aload_n 0, 1) := by decide +kernel
theorem dX12_told_147 : decode cX12_told 147 = .ok (.getfield 103, 3) := by decide +kernel
theorem dX12_told_150 : decode cX12_told 150 = .ok (.iload_n 1, 1) := by decide +kernel
theorem dX12_told_151 : decode cX12_told 151 = .ok (.iaload, 1) := by decide +kernel
theorem dX12_told_152 : decode cX12_told 152 = .ok (.ireturn, 1) := by decide +kernel
theorem dX12_told_153 : decode cX12_told 153 = .ok (.aload_n 0, 1) := by decide +kernel
theorem dX12_told_154 : decode cX12_told 154 = .ok (.getfield 132, 3) := by decide +kernel
theorem dX12_told_157 : decode cX12_told 157 = .ok (.iload_n 1, 1) := by decide +kernel
theorem dX12_told_158 : decode cX12_told 158 = .ok (.iaload, 1) := by decide +kernel
theorem dX12_told_159 : decode cX12_told 159 = .ok (.ireturn, 1) := by decide +kernel
theorem dX12_told_160 : decode cX12_told 160 = .ok (.aload_n 0, 1) := by decide +kernel
theorem dX12_told_161 : decode cX12_told 161 = .ok (.getfield 135, 3) := by decide +kernel
theorem dX12_told_164 : decode cX12_told 164 = .ok (.iload_n 1, 1) := by decide +kernel
theorem dX12_told_165 : decode cX12_told 165 = .ok (.iaload, 1) := by decide +kernel
theorem dX12_told_166 : decode cX12_told 166 = .ok (.ireturn, 1) := by decide +kernel
theorem dX12_told_167 : decode cX12_told 167 = .ok (.aload_n 0, 1) := by decide +kernel
theorem dX12_told_168 : decode cX12_told 168 = .ok (.getfield 138, 3) := by decide +kernel
theorem dX12_told_171 : decode cX12_told 171 = .ok (.iload_n 1, 1) := by decide +kernel
theorem dX12_told_172 : decode cX12_told 172 = .ok (.iaload, 1) := by decide +kernel
theorem dX12_told_173 : decode cX12_told 173 = .ok (.ireturn, 1) := by decide +kernel
theorem dX12_told_174 : decode cX12_told 174 = .ok (.bipush (-2), 2) := by decide +kernel
theorem dX12_told_176 : decode cX12_told 176 = .ok (.ireturn, 1) := by decide +kernel
theorem dX12_init_0 : decode cX12_init 0 = .ok (.aload_n 0, 1) := by decide +kernel
theorem dX12_init_1 : decode cX12_init 1 = .ok (.invokespecial 141, 3) := by decide +kernel
theorem dX12_init_4 : decode cX12_init 4 = .ok (.aload_n 0, 1) := by decide +kernel
theorem dX12_init_5 : decode cX12_init 5 = .ok (.iconst 5, 1) := by decide +kernel
theorem dX12_init_6 : decode cX12_init 6 = .ok (.newarray .int, 2) := by decide +kernel
theorem dX12_init_8 : decode cX12_init 8 = .ok (.putfield 19, 3) := by decide +kernel
theorem dX12_init_11 : decode cX12_init 11 = .ok (.aload_n 0, 1) := by decide +kernel
theorem dX12_init_12 : decode cX12_init 12 = .ok (.iconst 5, 1) := by decide +kernel
theorem dX12_init_13 : decode cX12_init 13 = .ok (.newarray .int, 2) := by decide +kernel
theorem dX12_init_15 : decode cX12_init 15 = .ok (.putfield 29, 3) := by decide +kernel
theorem dX12_init_18 : decode cX12_init 18 = .ok (.aload_n 0, 1) := by decide +kernel
theorem dX12_init_19 : decode cX12_init 19 = .ok (.iconst 5, 1) := by decide +kernel
theorem dX12_init_20 : decode cX12_init 20 = .ok (.newarray .int, 2) := by decide +kernel
theorem dX12_init_22 : decode cX12_init 22 = .ok (.putfield 33, 3) := by decide +kernel
theorem dX12_init_25 : decode cX12_init 25 = .ok (.aload_n 0, 1) := by decide +kernel
theorem dX12_init_26 : decode cX12_init 26 = .ok (.iconst 5, 1) := by decide +kernel
theorem dX12_init_27 : decode cX12_init 27 = .ok (.newarray .int, 2) := by decide +kernel
theorem dX12_init_29 : decode cX12_init 29 = .ok (.putfield 36, 3) := by decide +kernel
theorem dX12_init_32 : decode cX12_init 32 = .ok (.aload_n 0, 1) := by decide +kernel
theorem dX12_init_33 : decode cX12_init 33 = .ok (.iconst 5, 1) := by decide +kernel
theorem dX12_init_34 : decode cX12_init 34 = .ok (.newarray .int, 2) := by decide +kernel
theorem dX12_init_36 : decode cX12_init 36 = .ok (.putfield 39, 3) := by decide +kernel
theorem dX12_init_39 : decode cX12_init 39 = .ok (.aload_n 0, 1) := by decide +kernel
theorem dX12_init_40 : decode cX12_init 40 = .ok (.bipush 8, 2) := by decide +kernel
theorem dX12_init_42 : decode cX12_init 42 = .ok (.newarray .int, 2) := by decide +kernel
theorem dX12_init_44 : decode cX12_init 44 = .ok (.putfield 46, 3) := by decide +kernel
theorem dX12_init_47 : decode cX12_init 47 = .ok (.aload_n 0, 1) := by decide +kernel
theorem dX12_init_48 : decode cX12_init 48 = .ok (.bipush 8, 2) := by decide +kernel
theorem dX12_init_50 : decode cX12_init 50 = .ok (.newarray .int, 2) := by decide +kernel
theorem dX12_init_52 : decode cX12_init 52 = .ok (.putfield 49, 3) := by decide +kernel
theorem dX12_init_55 : decode cX12_init 55 = .ok (.aload_n 0, 1) := by decide +kernel
theorem dX12_init_56 : decode cX12_init 56 = .ok (.bipush 8, 2) := by decide +kernel
theorem dX12_init_58 : decode cX12_init 58 = .ok (.newarray .int, 2) := by decide +kernel
theorem dX12_init_60 : decode cX12_init 60 = .ok (.putfield 52, 3) := by decide +kernel
theorem dX12_init_63 : decode cX12_init 63 = .ok (.aload_n 0, 1) := by decide +kernel
theorem dX12_init_64 : decode cX12_init 64 = .ok (.bipush 14, 2) := by decide +kernel
theorem dX12_init_66 : decode cX12_init 66 = .ok (.newarray .int, 2) := by decide +kernel
theorem dX12_init_68 : decode cX12_init 68 = .ok (.putfield 82, 3) := by decide +kernel
theorem dX12_init_71 : decode cX12_init 71 = .ok (.aload_n 0, 1) := by decide +kernel
theorem dX12_init_72 : decode cX12_init 72 = .ok (.bipush 14, 2) := by decide +kernel
theorem dX12_init_74 : decode cX12_init 74 = .ok (.newarray .int, 2) := by decide +kernel
theorem dX12_init_76 : decode cX12_init 76 = .ok (.putfield 85, 3) := by decide +kernel
theorem dX12_init_79 : decode cX12_init 79 = .ok (.aload_n 0, 1) := by decide +kernel
theorem dX12_init_80 : decode cX12_init 80 = .ok (.bipush 14, 2) := by decide +kernel
theorem dX12_init_82 : decode cX12_init 82 = .ok (.newarray .int, 2) := by decide +kernel
theorem dX12_init_84 : decode cX12_init 84 = .ok (.putfield 88, 3) := by decide +kernel
theorem dX12_init_87 : decode cX12_init 87 = .ok (.aload_n 0, 1) := by decide +kernel
theorem dX12_init_88 : decode cX12_init 88 = .ok (.bipush 14, 2) := by decide +kernel
theorem dX12_init_90 : decode cX12_init 90 = .ok (.newarray .int, 2) := by decide +kernel
theorem dX12_init_92 : decode cX12_init 92 = .ok (.putfield 91, 3) := by decide +kernel
theorem dX12_init_95 : decode cX12_init 95 = .ok (.aload_n 0, 1) := by decide +kernel
theorem dX12_init_96 : decode cX12_init 96 = .ok (.bipush 14, 2) := by decide +kernel
theorem dX12_init_98 : decode cX12_init 98 = .ok (.newarray .int, 2) := by decide +kernel
theorem dX12_init_100 : decode cX12_init 100 = .ok (.putfield 94, 3) := by decide +kernel
theorem dX12_init_103 : decode cX12_init 103 = .ok (.aload_n 0, 1) := by decide +kernel
theorem dX12_init_104 : decode cX12_init 104 = .ok (.bipush 14, 2) := by decide +kernel
theorem dX12_init_106 : decode cX12_init 106 = .ok (.newarray .int, 2) := by decide +kernel
theorem dX12_init_108 : decode cX12_init 108 = .ok (.putfield 97, 3) := by decide +kernel
theorem dX12_init_111 : decode cX12_init 111 = .ok (.aload_n 0, 1) := by decide +kernel
theorem dX12_init_112 : decode cX12_init 112 = .ok (.bipush 14, 2) := by decide +kernel
theorem dX12_init_114 : decode cX12_init 114 = .ok (.newarray .int, 2) := by decide +kernel
theorem dX12_init_116 : decode cX12_init 116 = .ok (.putfield 100, 3) := by decide +kernel
theorem dX12_init_119 : decode cX12_init 119 = .ok (.aload_n 0, 1) := by decide +kernel
theorem dX12_init_120 : decode cX12_init 120 = .ok (.bipush 14, 2) := by decide +kernel
theorem dX12_init_122 : decode cX12_init 122 = .ok (.newarray .int, 2) := by decide +kernel
theorem dX12_init_124 : decode cX12_init 124 = .ok (.putfield 55, 3) := by decide +kernel
theorem dX12_init_127 : decode cX12_init 127 = .ok (.aload_n 0, 1) := by decide +kernel
theorem dX12_init_128 : decode cX12_init 128 = .ok (.bipush 112, 2) := by decide +kernel
theorem dX12_init_130 : decode cX12_init 130 = .ok (.newarray .boolean, 2) := by decide +kernel
theorem dX12_init_132 : decode cX12_init 132 = .ok (.putfield 147, 3) := by decide +kernel
theorem dX12_init_135 : decode cX12_init 135 = .ok (.aload_n 0, 1) := by decide +kernel
theorem dX12_init_136 : decode cX12_init 136 = .ok (.bipush 112, 2) := by decide +kernel
theorem dX12_init_138 : decode cX12_init 138 = .ok (.newarray .int, 2) := by decide +kernel
theorem dX12_init_140 : decode cX12_init 140 = .ok (.putfield 106, 3) := by decide +kernel
theorem dX12_init_143 : decode cX12_init 143 = .ok (.aload_n 0, 1) := by decide +kernel
theorem dX12_init_144 : decode cX12_init 144 = .ok (.bipush 14, 2) := by decide +kernel
theorem dX12_init_146 : decode cX12_init 146 = .ok (.newarray .int, 2) := by decide +kernel
theorem dX12_init_148 : decode cX12_init 148 = .ok (.putfield 103, 3) := by decide +kernel
theorem dX12_init_151 : decode cX12_init 151 = .ok (.aload_n 0, 1) := by decide +kernel
theorem dX12_init_152 : decode cX12_init 152 = .ok (.bipush 14, 2) := by decide +kernel
theorem dX12_init_154 : decode cX12_init 154 = .ok (.newarray .int, 2) := by decide +kernel
theorem dX12_init_156 : decode cX12_init 156 = .ok (.putfield 151, 3) := by decide +kernel
theorem dX12_init_159 : decode cX12_init 159 = .ok (.aload_n 0, 1) := by decide +kernel
theorem dX12_init_160 : decode cX12_init 160 = .ok (.bipush 14, 2) := by decide +kernel
theorem dX12_init_162 : decode cX12_init 162 = .ok (.newarray .int, 2) := by decide +kernel
theorem dX12_init_164 : decode cX12_init 164 = .ok (.putfield 154, 3) := by decide +kernel
theorem dX12_init_167 : decode cX12_init 167 = .ok (.aload_n 0, 1) := by decide +kernel
theorem dX12_init_168 : decode cX12_init 168 = .ok (.bipush 14, 2) := by decide +kernel
theorem dX12_init_170 : decode cX12_init 170 = .ok (.newarray .int, 2) := by decide +kernel
theorem dX12_init_172 : decode cX12_init 172 = .ok (.putfield 157, 3) := by decide +kernel
theorem dX12_init_175 : decode cX12_init 175 = .ok (.aload_n 0, 1) := by decide +kernel
theorem dX12_init_176 : decode cX12_init 176 = .ok (.bipush 14, 2) := by decide +kernel
theorem dX12_init_178 : decode cX12_init 178 = .ok (.newarray .int, 2) := by decide +kernel
theorem dX12_init_180 : decode cX12_init 180 = .ok (.putfield 132, 3) := by decide +kernel
theorem dX12_init_183 : decode cX12_init 183 = .ok (.aload_n 0, 1) := by decide +kernel
theorem dX12_init_184 : decode cX12_init 184 = .ok (.bipush 14, 2) := by decide +kernel
theorem dX12_init_186 : decode cX12_init 186 = .ok (.newarray .int, 2) := by decide +kernel
theorem dX12_init_188 : decode cX12_init 188 = .ok (.putfield 135, 3) := by decide +kernel
theorem dX12_init_191 : decode cX12_init 191 = .ok (.aload_n 0, 1) := by decide +kernel
theorem dX12_init_192 : decode cX12_init 192 = .ok (.bipush 14, 2) := by decide +kernel
theorem dX12_init_194 : decode cX12_init 194 = .ok (.newarray .int, 2) := by decide +kernel
theorem dX12_init_196 : decode cX12_init 196 = .ok (.putfield 138, 3) := by decide +kernel
theorem dX12_init_199 : decode cX12_init 199 = .ok (.aload_n 0, 1) := by decide +kernel
theorem dX12_init_200 : decode cX12_init 200 = .ok (.sipush 160, 3) := by decide +kernel
theorem dX12_init_203 : decode cX12_init 203 = .ok (.newarray .byte, 2) := by decide +kernel
theorem dX12_init_205 : decode cX12_init 205 = .ok (.putfield 160, 3) := by decide +kernel
theorem dX12_init_208 : decode cX12_init 208 = .ok (.aload_n 0, 1) := by decide +kernel
theorem dX12_init_209 : decode cX12_init 209 = .ok (.bipush 18, 2) := by decide +kernel
theorem dX12_init_211 : decode cX12_init 211 = .ok (.newarray .int, 2) := by decide +kernel
theorem dX12_init_213 : decode cX12_init 213 = .ok (.putfield 164, 3) := by decide +kernel
theorem dX12_init_216 : decode cX12_init 216 = .ok (.aload_n 0, 1) := by decide +kernel
theorem dX12_init_217 : decode cX12_init 217 = .ok (.sipush 2880, 3) := by decide +kernel
theorem dX12_init_220 : decode cX12_init 220 = .ok (.newarray .int, 2) := by decide +kernel
theorem dX12_init_222 : decode cX12_init 222 = .ok (.putfield 167, 3) := by decide +kernel
theorem dX12_init_225 : decode cX12_init 225 = .ok (.aload_n 0, 1) := by decide +kernel
theorem dX12_init_226 : decode cX12_init 226 = .ok (.sipush 2880, 3) := by decide +kernel
theorem dX12_init_229 : decode cX12_init 229 = .ok (.newarray .int, 2) := by decide +kernel
theorem dX12_init_231 : decode cX12_init 231 = .ok (.putfield 170, 3) := by decide +kernel
theorem dX12_init_234 : decode cX12_init 234 = .ok (.aload_n 0, 1) := by decide +kernel
theorem dX12_init_235 : decode cX12_init 235 = .ok (.bipush 51, 2) := by decide +kernel
theorem dX12_init_237 : decode cX12_init 237 = .ok (.newarray .char, 2) := by decide +kernel
theorem dX12_init_239 : decode cX12_init 239 = .ok (.dup, 1) := by decide +kernel
theorem dX12_init_240 : decode cX12_init 240 = .ok (.iconst 0, 1) := by decide +kernel
theorem dX12_init_241 : decode cX12_init 241 = .ok (.bipush 107, 2) := by decide +kernel
theorem dX12_init_243 : decode cX12_init 243 = .ok (.castore, 1) := by decide +kernel
theorem dX12_init_244 : decode cX12_init 244 = .ok (.dup, 1) := by decide +kernel
theorem dX12_init_245 : decode cX12_init 245 = .ok (.iconst 1, 1) := by decide +kernel
theorem dX12_init_246 : decode cX12_init 246 = .ok (.bipush 105, 2) := by decide +kernel
theorem dX12_init_248 : decode cX12_init 248 = .ok (.castore, 1) := by decide +kernel
theorem dX12_init_249 : decode cX12_init 249 = .ok (.dup, 1) := by decide +kernel
theorem dX12_init_250 : decode cX12_init 250 = .ok (.iconst 2, 1) := by decide +kernel
theorem dX12_init_251 : decode cX12_init 251 = .ok (.bipush 110, 2) := by decide +kernel
theorem dX12_init_253 : decode cX12_init 253 = .ok (.castore, 1) := by decide +kernel
theorem dX12_init_254 : decode cX12_init 254 = .ok (.dup, 1) := by decide +kernel
theorem dX12_init_255 : decode cX12_init 255 = .ok (.iconst 3, 1) := by decide +kernel
theorem dX12_init_256 : decode cX12_init 256 = .ok (.bipush 100, 2) := by decide +kernel
theorem dX12_init_258 : decode cX12_init 258 = .ok (.castore, 1) := by decide +kernel
theorem dX12_init_259 : decode cX12_init 259 = .ok (.dup, 1) := by decide +kernel
theorem dX12_init_260 : decode cX12_init 260 = .ok (.iconst 4, 1) := by decide +kernel
theorem dX12_init_261 : decode cX12_init 261 = .ok (.bipush 115, 2) := by decide +kernel
theorem dX12_init_263 : decode cX12_init 263 = .ok (.castore, 1) := by decide +kernel
theorem dX12_init_264 : decode cX12_init 264 = .ok (.dup, 1) := by decide +kernel
theorem dX12_init_265 : decode cX12_init 265 = .ok (.iconst 5, 1) := by decide +kernel
theorem dX12_init_266 : decode cX12_init 266 = .ok (.bipush 117, 2) := by decide +kernel
theorem dX12_init_268 : decode cX12_init 268 = .ok (.castore, 1) := by decide +kernel
theorem dX12_init_269 : decode cX12_init 269 = .ok (.dup, 1) := by decide +kernel
theorem dX12_init_270 : decode cX12_init 270 = .ok (.bipush 6, 2) := by decide +kernel
theorem dX12_init_272 : decode cX12_init 272 = .ok (.bipush 109, 2) := by decide +kernel
theorem dX12_init_274 : decode cX12_init 274 = .ok (.castore, 1) := by decide +kernel
theorem dX12_init_275 : decode cX12_init 275 = .ok (.dup, 1) := by decide +kernel
theorem dX12_init_276 : decode cX12_init 276 = .ok (.bipush 7, 2) := by decide +kernel
theorem dX12_init_278 : decode cX12_init 278 = .ok (.bipush 116, 2) := by decide +kernel
theorem dX12_init_280 : decode cX12_init 280 = .ok (.castore, 1) := by decide +kernel
theorem dX12_init_281 : decode cX12_init 281 = .ok (.dup, 1) := by decide +kernel
theorem dX12_init_282 : decode cX12_init 282 = .ok (.bipush 8, 2) := by decide +kernel
theorem dX12_init_284 : decode cX12_init 284 = .ok (.bipush 104, 2) := by decide +kernel
theorem dX12_init_286 : decode cX12_init 286 = .ok (.castore, 1) := by decide +kernel
theorem dX12_init_287 : decode cX12_init 287 = .ok (.dup, 1) := by decide +kernel
theorem dX12_init_288 : decode cX12_init 288 = .ok (.bipush 9, 2) := by decide +kernel
theorem dX12_init_290 : decode cX12_init 290 = .ok (.bipush 101, 2) := by decide +kernel
theorem dX12_init_292 : decode cX12_init 292 = .ok (.castore, 1) := by decide +kernel
theorem dX12_init_293 : decode cX12_init 293 = .ok (.dup, 1) := by decide +kernel
theorem dX12_init_294 : decode cX12_init 294 = .ok (.bipush 10, 2) := by decide +kernel
theorem dX12_init_296 : decode cX12_init 296 = .ok (.bipush 109, 2) := by decide +kernel
theorem dX12_init_298 : decode cX12_init 298 = .ok (.castore, 1) := by decide +kernel
theorem dX12_init_299 : decode cX12_init 299 = .ok (.dup, 1) := by decide +kernel
theorem dX12_init_300 : decode cX12_init 300 = .ok (.bipush 11, 2) := by decide +kernel
theorem dX12_init_302 : decode cX12_init 302 = .ok (.bipush 101, 2) := by decide +kernel
theorem dX12_init_304 : decode cX12_init 304 = .ok (.castore, 1) := by decide +kernel
theorem dX12_init_305 : decode cX12_init 305 = .ok (.dup, 1) := by decide +kernel
theorem dX12_init_306 : decode cX12_init 306 = .ok (.bipush 12, 2) := by decide +kernel
theorem dX12_init_308 : decode cX12_init 308 = .ok (.bipush 100, 2) := by decide +kernel
theorem dX12_init_310 : decode cX12_init 310 = .ok (.castore, 1) := by decide +kernel
theorem dX12_init_311 : decode cX12_init 311 = .ok (.dup, 1) := by decide +kernel
theorem dX12_init_312 : decode cX12_init 312 = .ok (.bipush 13, 2) := by decide +kernel
theorem dX12_init_314 : decode cX12_init 314 = .ok (.bipush 97, 2) := by decide +kernel
theorem dX12_init_316 : decode cX12_init 316 = .ok (.castore, 1) := by decide +kernel
theorem dX12_init_317 : decode cX12_init 317 = .ok (.dup, 1) := by decide +kernel
theorem dX12_init_318 : decode cX12_init 318 = .ok (.bipush 14, 2) := by decide +kernel
theorem dX12_init_320 : decode cX12_init 320 = .ok (.bipush 121, 2) := by decide +kernel
theorem dX12_init_322 : decode cX12_init 322 = .ok (.castore, 1) := by decide +kernel
theorem dX12_init_323 : decode cX12_init 323 = .ok (.dup, 1) := by decide +kernel
theorem dX12_init_324 : decode cX12_init 324 = .ok (.bipush 15, 2) := by decide +kernel
theorem dX12_init_326 : decode cX12_init 326 = .ok (.bipush 109, 2) := by decide +kernel
theorem dX12_init_328 : decode cX12_init 328 = .ok (.castore, 1) := by decide +kernel
theorem dX12_init_329 : decode cX12_init 329 = .ok (.dup, 1) := by decide +kernel
theorem dX12_init_330 : decode cX12_init 330 = .ok (.bipush 16, 2) := by decide +kernel
theorem dX12_init_332 : decode cX12_init 332 = .ok (.bipush 97, 2) := by decide +kernel
theorem dX12_init_334 : decode cX12_init 334 = .ok (.castore, 1) := by decide +kernel
theorem dX12_init_335 : decode cX12_init 335 = .ok (.dup, 1) := by decide +kernel
theorem dX12_init_336 : decode cX12_init 336 = .ok (.bipush 17, 2) := by decide +kernel
theorem dX12_init_338 : decode cX12_init 338 = .ok (.bipush 114, 2) := by decide +kernel
theorem dX12_init_340 : decode cX12_init 340 = .ok (.castore, 1) := by decide +kernel
theorem dX12_init_341 : decode cX12_init 341 = .ok (.dup, 1) := by decide +kernel
theorem dX12_init_342 : decode cX12_init 342 = .ok (.bipush 18, 2) := by decide +kernel
theorem dX12_init_344 : decode cX12_init 344 = .ok (.bipush 107, 2) := by decide +kernel
theorem dX12_init_346 : decode cX12_init 346 = .ok (.castore, 1) := by decide +kernel
theorem dX12_init_347 : decode cX12_init 347 = .ok (.dup, 1) := by decide +kernel
theorem dX12_init_348 : decode cX12_init 348 = .ok (.bipush 19, 2) := by decide +kernel
theorem dX12_init_350 : decode cX12_init 350 = .ok (.bipush 114, 2) := by decide +kernel
theorem dX12_init_352 : decode cX12_init 352 = .ok (.castore, 1) := by decide +kernel
theorem dX12_init_353 : decode cX12_init 353 = .ok (.dup, 1) := by decide +kernel
theorem dX12_init_354 : decode cX12_init 354 = .ok (.bipush 20, 2) := by decide +kernel
theorem dX12_init_356 : decode cX12_init 356 = .ok (.bipush 101, 2) := by decide +kernel
theorem dX12_init_358 : decode cX12_init 358 = .ok (.castore, 1) := by decide +kernel
theorem dX12_init_359 : decode cX12_init 359 = .ok (.dup, 1) := by decide +kernel
theorem dX12_init_360 : decode cX12_init 360 = .ok (.bipush 21, 2) := by decide +kernel
theorem dX12_init_362 : decode cX12_init 362 = .ok (.bipush 97, 2) := by decide +kernel
theorem dX12_init_364 : decode cX12_init 364 = .ok (.castore, 1) := by decide +kernel
theorem dX12_init_365 : decode cX12_init 365 = .ok (.dup, 1) := by decide +kernel
theorem dX12_init_366 : decode cX12_init 366 = .ok (.bipush 22, 2) := by decide +kernel
theorem dX12_init_368 : decode cX12_init 368 = .ok (.bipush 100, 2) := by decide +kernel
theorem dX12_init_370 : decode cX12_init 370 = .ok (.castore, 1) := by decide +kernel
theorem dX12_init_371 : decode cX12_init 371 = .ok (.dup, 1) := by decide +kernel
theorem dX12_init_372 : decode cX12_init 372 = .ok (.bipush 23, 2) := by decide +kernel
theorem dX12_init_374 : decode cX12_init 374 = .ok (.bipush 101, 2) := by decide +kernel
theorem dX12_init_376 : decode cX12_init 376 = .ok (.castore, 1) := by decide +kernel
theorem dX12_init_377 : decode cX12_init 377 = .ok (.dup, 1) := by decide +kernel
theorem dX12_init_378 : decode cX12_init 378 = .ok (.bipush 24, 2) := by decide +kernel
theorem dX12_init_380 : decode cX12_init 380 = .ok (.bipush 114, 2) := by decide +kernel
theorem dX12_init_382 : decode cX12_init 382 = .ok (.castore, 1) := by decide +kernel
theorem dX12_init_383 : decode cX12_init 383 = .ok (.dup, 1) := by decide +kernel
theorem dX12_init_384 : decode cX12_init 384 = .ok (.bipush 25, 2) := by decide +kernel
theorem dX12_init_386 : decode cX12_init 386 = .ok (.bipush 115, 2) := by decide +kernel
theorem dX12_init_388 : decode cX12_init 388 = .ok (.castore, 1) := by decide +kernel
theorem dX12_init_389 : decode cX12_init 389 = .ok (.dup, 1) := by decide +kernel
theorem dX12_init_390 : decode cX12_init 390 = .ok (.bipush 26, 2) := by decide +kernel
theorem dX12_init_392 : decode cX12_init 392 = .ok (.bipush 98, 2) := by decide +kernel
theorem dX12_init_394 : decode cX12_init 394 = .ok (.castore, 1) := by decide +kernel
theorem dX12_init_395 : decode cX12_init 395 = .ok (.dup, 1) := by decide +kernel
theorem dX12_init_396 : decode cX12_init 396 = .ok (.bipush 27, 2) := by decide +kernel
theorem dX12_init_398 : decode cX12_init 398 = .ok (.bipush 101, 2) := by decide +kernel
theorem dX12_init_400 : decode cX12_init 400 = .ok (.castore, 1) := by decide +kernel
theorem dX12_init_401 : decode cX12_init 401 = .ok (.dup, 1) := by decide +kernel
theorem dX12_init_402 : decode cX12_init 402 = .ok (.bipush 28, 2) := by decide +kernel
theorem dX12_init_404 : decode cX12_init 404 = .ok (.bipush 104, 2) := by decide +kernel
theorem dX12_init_406 : decode cX12_init 406 = .ok (.castore, 1) := by decide +kernel
theorem dX12_init_407 : decode cX12_init 407 = .ok (.dup, 1) := by decide +kernel
theorem dX12_init_408 : decode cX12_init 408 = .ok (.bipush 29, 2) := by decide +kernel
theorem dX12_init_410 : decode cX12_init 410 = .ok (.bipush 105, 2) := by decide +kernel
theorem dX12_init_412 : decode cX12_init 412 = .ok (.castore, 1) := by decide +kernel
theorem dX12_init_413 : decode cX12_init 413 = .ok (.dup, 1) := by decide +kernel
theorem dX12_init_414 : decode cX12_init 414 = .ok (.bipush 30, 2) := by decide +kernel
theorem dX12_init_416 : decode cX12_init 416 = .ok (.bipush 110, 2) := by decide +kernel
theorem dX12_init_418 : decode cX12_init 418 = .ok (.castore, 1) := by decide +kernel
theorem dX12_init_419 : decode cX12_init 419 = .ok (.dup, 1) := by decide +kernel
theorem dX12_init_420 : decode cX12_init 420 = .ok (.bipush 31, 2) := by decide +kernel
theorem dX12_init_422 : decode cX12_init 422 = .ok (.bipush 100, 2) := by decide +kernel
theorem dX12_init_424 : decode cX12_init 424 = .ok (.castore, 1) := by decide +kernel
theorem dX12_init_425 : decode cX12_init 425 = .ok (.dup, 1) := by decide +kernel
theorem dX12_init_426 : decode cX12_init 426 = .ok (.bipush 32, 2) := by decide +kernel
theorem dX12_init_428 : decode cX12_init 428 = .ok (.bipush 109, 2) := by decide +kernel
theorem dX12_init_430 : decode cX12_init 430 = .ok (.castore, 1) := by decide +kernel
theorem dX12_init_431 : decode cX12_init 431 = .ok (.dup, 1) := by decide +kernel
theorem dX12_init_432 : decode cX12_init 432 = .ok (.bipush 33, 2) := by decide +kernel
theorem dX12_init_434 : decode cX12_init 434 = .ok (.bipush 97, 2) := by decide +kernel
theorem dX12_init_436 : decode cX12_init 436 = .ok (.castore, 1) := by decide +kernel
theorem dX12_init_437 : decode cX12_init 437 = .ok (.dup, 1) := by decide +kernel
theorem dX12_init_438 : decode cX12_init 438 = .ok (.bipush 34, 2) := by decide +kernel
theorem dX12_init_440 : decode cX12_init 440 = .ok (.bipush 121, 2) := by decide +kernel
theorem dX12_init_442 : decode cX12_init 442 = .ok (.castore, 1) := by decide +kernel
theorem dX12_init_443 : decode cX12_init 443 = .ok (.dup, 1) := by decide +kernel
theorem dX12_init_444 : decode cX12_init 444 = .ok (.bipush 35, 2) := by decide +kernel
theorem dX12_init_446 : decode cX12_init 446 = .ok (.bipush 112, 2) := by decide +kernel
theorem dX12_init_448 : decode cX12_init 448 = .ok (.castore, 1) := by decide +kernel
theorem dX12_init_449 : decode cX12_init 449 = .ok (.dup, 1) := by decide +kernel
theorem dX12_init_450 : decode cX12_init 450 = .ok (.bipush 36, 2) := by decide +kernel
theorem dX12_init_452 : decode cX12_init 452 = .ok (.bipush 97, 2) := by decide +kernel
theorem dX12_init_454 : decode cX12_init 454 = .ok (.castore, 1) := by decide +kernel
theorem dX12_init_455 : decode cX12_init 455 = .ok (.dup, 1) := by decide +kernel
theorem dX12_init_456 : decode cX12_init 456 = .ok (.bipush 37, 2) := by decide +kernel
theorem dX12_init_458 : decode cX12_init 458 = .ok (.bipush 115, 2) := by decide +kernel
theorem dX12_init_460 : decode cX12_init 460 = .ok (.castore, 1) := by decide +kernel
theorem dX12_init_461 : decode cX12_init 461 = .ok (.dup, 1) := by decide +kernel
theorem dX12_init_462 : decode cX12_init 462 = .ok (.bipush 38, 2) := by decide +kernel
theorem dX12_init_464 : decode cX12_init 464 = .ok (.bipush 115, 2) := by decide +kernel
theorem dX12_init_466 : decode cX12_init 466 = .ok (.castore, 1) := by decide +kernel
theorem dX12_init_467 : decode cX12_init 467 = .ok (.dup, 1) := by decide +kernel
theorem dX12_init_468 : decode cX12_init 468 = .ok (.bipush 39, 2) := by decide +kernel
theorem dX12_init_470 : decode cX12_init 470 = .ok (.bipush 108, 2) := by decide +kernel
theorem dX12_init_472 : decode cX12_init 472 = .ok (.castore, 1) := by decide +kernel
theorem dX12_init_473 : decode cX12_init 473 = .ok (.dup, 1) := by decide +kernel
theorem dX12_init_474 : decode cX12_init 474 = .ok (.bipush 40, 2) := by decide +kernel
theorem dX12_init_476 : decode cX12_init 476 = .ok (.bipush 97, 2) := by decide +kernel
theorem dX12_init_478 : decode cX12_init 478 = .ok (.castore, 1) := by decide +kernel
theorem dX12_init_479 : decode cX12_init 479 = .ok (.dup, 1) := by decide +kernel
theorem dX12_init_480 : decode cX12_init 480 = .ok (.bipush 41, 2) := by decide +kernel
theorem dX12_init_482 : decode cX12_init 482 = .ok (.bipush 116, 2) := by decide +kernel
theorem dX12_init_484 : decode cX12_init 484 = .ok (.castore, 1) := by decide +kernel
theorem dX12_init_485 : decode cX12_init 485 = .ok (.dup, 1) := by decide +kernel
theorem dX12_init_486 : decode cX12_init 486 = .ok (.bipush 42, 2) := by decide +kernel
theorem dX12_init_488 : decode cX12_init 488 = .ok (.bipush 101, 2) := by decide +kernel
theorem dX12_init_490 : decode cX12_init 490 = .ok (.castore, 1) := by decide +kernel
theorem dX12_init_491 : decode cX12_init 491 = .ok (.dup, 1) := by decide +kernel
theorem dX12_init_492 : decode cX12_init 492 = .ok (.bipush 43, 2) := by decide +kernel
theorem dX12_init_494 : decode cX12_init 494 = .ok (.bipush 111, 2) := by decide +kernel
theorem dX12_init_496 : decode cX12_init 496 = .ok (.castore, 1) := by decide +kernel
theorem dX12_init_497 : decode cX12_init 497 = .ok (.dup, 1) := by decide +kernel
theorem dX12_init_498 : decode cX12_init 498 = .ok (.bipush 44, 2) := by decide +kernel
theorem dX12_init_500 : decode cX12_init 500 = .ok (.bipush 114, 2) := by decide +kernel
theorem dX12_init_502 : decode cX12_init 502 = .ok (.castore, 1) := by decide +kernel
theorem dX12_init_503 : decode cX12_init 503 = .ok (.dup, 1) := by decide +kernel
theorem dX12_init_504 : decode cX12_init 504 = .ok (.bipush 45, 2) := by decide +kernel
theorem dX12_init_506 : decode cX12_init 506 = .ok (.bipush 97, 2) := by decide +kernel
theorem dX12_init_508 : decode cX12_init 508 = .ok (.castore, 1) := by decide +kernel
theorem dX12_init_509 : decode cX12_init 509 = .ok (.dup, 1) := by decide +kernel
theorem dX12_init_510 : decode cX12_init 510 = .ok (.bipush 46, 2) := by decide +kernel
theorem dX12_init_512 : decode cX12_init 512 = .ok (.bipush 110, 2) := by decide +kernel
theorem dX12_init_514 : decode cX12_init 514 = .ok (.castore, 1) := by decide +kernel
theorem dX12_init_515 : decode cX12_init 515 = .ok (.dup, 1) := by decide +kernel
theorem dX12_init_516 : decode cX12_init 516 = .ok (.bipush 47, 2) := by decide +kernel
theorem dX12_init_518 : decode cX12_init 518 = .ok (.bipush 100, 2) := by decide +kernel
theorem dX12_init_520 : decode cX12_init 520 = .ok (.castore, 1) := by decide +kernel
theorem dX12_init_521 : decode cX12_init 521 = .ok (.dup, 1) := by decide +kernel
theorem dX12_init_522 : decode cX12_init 522 = .ok (.bipush 48, 2) := by decide +kernel
theorem dX12_init_524 : decode cX12_init 524 = .ok (.bipush 110, 2) := by decide +kernel
theorem dX12_init_526 : decode cX12_init 526 = .ok (.castore, 1) := by decide +kernel
theorem dX12_init_527 : decode cX12_init 527 = .ok (.dup, 1) := by decide +kernel
theorem dX12_init_528 : decode cX12_init 528 = .ok (.bipush 49, 2) := by decide +kernel
theorem dX12_init_530 : decode cX12_init 530 = .ok (.bipush 111, 2) := by decide +kernel
theorem dX12_init_532 : decode cX12_init 532 = .ok (.castore, 1) := by decide +kernel
theorem dX12_init_533 : decode cX12_init 533 = .ok (.dup, 1) := by decide +kernel
theorem dX12_init_534 : decode cX12_init 534 = .ok (.bipush 50, 2) := by decide +kernel
theorem dX12_init_536 : decode cX12_init 536 = .ok (.bipush 116, 2) := by decide +kernel
theorem dX12_init_538 : decode cX12_init 538 = .ok (.castore, 1) := by decide +kernel
theorem dX12_init_539 : decode cX12_init 539 = .ok (.putfield 173, 3) := by decide +kernel
theorem dX12_init_542 : decode cX12_init 542 = .ok (.aload_n 0, 1) := by decide +kernel
theorem dX12_init_543 : decode cX12_init 543 = .ok (.bipush 13, 2) := by decide +kernel
theorem dX12_init_545 : decode cX12_init 545 = .ok (.newarray .int, 2) := by decide +kernel
theorem dX12_init_547 : decode cX12_init 547 = .ok (.dup, 1) := by decide +kernel
theorem dX12_init_548 : decode cX12_init 548 = .ok (.iconst 0, 1) := by decide +kernel
theorem dX12_init_549 : decode cX12_init 549 = .ok (.iconst 0, 1) := by decide +kernel
theorem dX12_init_550 : decode cX12_init 550 = .ok (.iastore, 1) := by decide +kernel
theorem dX12_init_551 : decode cX12_init 551 = .ok (.dup, 1) := by decide +kernel
theorem dX12_init_552 : decode cX12_init 552 = .ok (.iconst 1, 1) := by decide +kernel
theorem dX12_init_553 : decode cX12_init 553 = .ok (.iconst 4, 1) := by decide +kernel
theorem dX12_init_554 : decode cX12_init 554 = .ok (.iastore, 1) := by decide +kernel
theorem dX12_init_555 : decode cX12_init 555 = .ok (.dup, 1) := by decide +kernel
theorem dX12_init_556 : decode cX12_init 556 = .ok (.iconst 2, 1) := by decide +kernel
theorem dX12_init_557 : decode cX12_init 557 = .ok (.bipush 7, 2) := by decide +kernel
theorem dX12_init_559 : decode cX12_init 559 = .ok (.iastore, 1) := by decide +kernel
theorem dX12_init_560 : decode cX12_init 560 = .ok (.dup, 1) := by decide +kernel
theorem dX12_init_561 : decode cX12_init 561 = .ok (.iconst 3, 1) := by decide +kernel
theorem dX12_init_562 : decode cX12_init 562 = .ok (.bipush 12, 2) := by decide +kernel
theorem dX12_init_564 : decode cX12_init 564 = .ok (.iastore, 1) := by decide +kernel
theorem dX12_init_565 : decode cX12_init 565 = .ok (.dup, 1) := by decide +kernel
theorem dX12_init_566 : decode cX12_init 566 = .ok (.iconst 4, 1) := by decide +kernel
theorem dX12_init_567 : decode cX12_init 567 = .ok (.bipush 15, 2) := by decide +kernel
theorem dX12_init_569 : decode cX12_init 569 = .ok (.iastore, 1) := by decide +kernel
theorem dX12_init_570 : decode cX12_init 570 = .ok (.dup, 1) := by decide +kernel
theorem dX12_init_571 : decode cX12_init 571 = .ok (.iconst 5, 1) := by decide +kernel
theorem dX12_init_572 : decode cX12_init 572 = .ok (.bipush 19, 2) := by decide +kernel
theorem dX12_init_574 : decode cX12_init 574 = .ok (.iastore, 1) := by decide +kernel
theorem dX12_init_575 : decode cX12_init 575 = .ok (.dup, 1) := by decide +kernel
theorem dX12_init_576 : decode cX12_init 576 = .ok (.bipush 6, 2) := by decide +kernel
theorem dX12_init_578 : decode cX12_init 578 = .ok (.bipush 26, 2) := by decide +kernel
theorem dX12_init_580 : decode cX12_init 580 = .ok (.iastore, 1) := by decide +kernel
theorem dX12_init_581 : decode cX12_init 581 = .ok (.dup, 1) := by decide +kernel
theorem dX12_init_582 : decode cX12_init 582 = .ok (.bipush 7, 2) := by decide +kernel
theorem dX12_init_584 : decode cX12_init 584 = .ok (.bipush 32, 2) := by decide +kernel
theorem dX12_init_586 : decode cX12_init 586 = .ok (.iastore, 1) := by decide +kernel
theorem dX12_init_587 : decode cX12_init 587 = .ok (.dup, 1) := by decide +kernel
theorem dX12_init_588 : decode cX12_init 588 = .ok (.bipush 8, 2) := by decide +kernel
theorem dX12_init_590 : decode cX12_init 590 = .ok (.bipush 35, 2) := by decide +kernel
theorem dX12_init_592 : decode cX12_init 592 = .ok (.iastore, 1) := by decide +kernel
theorem dX12_init_593 : decode cX12_init 593 = .ok (.dup, 1) := by decide +kernel
theorem dX12_init_594 : decode cX12_init 594 = .ok (.bipush 9, 2) := by decide +kernel
theorem dX12_init_596 : decode cX12_init 596 = .ok (.bipush 39, 2) := by decide +kernel
theorem dX12_init_598 : decode cX12_init 598 = .ok (.iastore, 1) := by decide +kernel
theorem dX12_init_599 : decode cX12_init 599 = .ok (.dup, 1) := by decide +kernel
theorem dX12_init_600 : decode cX12_init 600 = .ok (.bipush 10, 2) := by decide +kernel
theorem dX12_init_602 : decode cX12_init 602 = .ok (.bipush 43, 2) := by decide +kernel
theorem dX12_init_604 : decode cX12_init 604 = .ok (.iastore, 1) := by decide +kernel
theorem dX12_init_605 : decode cX12_init 605 = .ok (.dup, 1) := by decide +kernel
theorem dX12_init_606 : decode cX12_init 606 = .ok (.bipush 11, 2) := by decide +kernel
theorem dX12_init_608 : decode cX12_init 608 = .ok (.bipush 45, 2) := by decide +kernel
theorem dX12_init_610 : decode cX12_init 610 = .ok (.iastore, 1) := by decide +kernel
theorem dX12_init_611 : decode cX12_init 611 = .ok (.dup, 1) := by decide +kernel
theorem dX12_init_612 : decode cX12_init 612 = .ok (.bipush 12, 2) := by decide +kernel
theorem dX12_init_614 : decode cX12_init 614 = .ok (.bipush 48, 2) := by decide +kernel
theorem dX12_init_616 : decode cX12_init 616 = .ok (.iastore, 1) := by decide +kernel
theorem dX12_init_617 : decode cX12_init 617 = .ok (.putfield 177, 3) := by decide +kernel
theorem dX12_init_620 : decode cX12_init 620 = .ok (.aload_n 0, 1) := by decide +kernel
theorem dX12_init_621 : decode cX12_init 621 = .ok (.bipush 13, 2) := by decide +kernel
theorem dX12_init_623 : decode cX12_init 623 = .ok (.newarray .int, 2) := by decide +kernel
theorem dX12_init_625 : decode cX12_init 625 = .ok (.dup, 1) := by decide +kernel
theorem dX12_init_626 : decode cX12_init 626 = .ok (.iconst 0, 1) := by decide +kernel
theorem dX12_init_627 : decode cX12_init 627 = .ok (.iconst 4, 1) := by decide +kernel
theorem dX12_init_628 : decode cX12_init 628 = .ok (.iastore, 1) := by decide +kernel
theorem dX12_init_629 : decode cX12_init 629 = .ok (.dup, 1) := by decide +kernel
theorem dX12_init_630 : decode cX12_init 630 = .ok (.iconst 1, 1) := by decide +kernel
theorem dX12_init_631 : decode cX12_init 631 = .ok (.iconst 3, 1) := by decide +kernel
theorem dX12_init_632 : decode cX12_init 632 = .ok (.iastore, 1) := by decide +kernel
theorem dX12_init_633 : decode cX12_init 633 = .ok (.dup, 1) := by decide +kernel
theorem dX12_init_634 : decode cX12_init 634 = .ok (.iconst 2, 1) := by decide +kernel
theorem dX12_init_635 : decode cX12_init 635 = .ok (.iconst 5, 1) := by decide +kernel
theorem dX12_init_636 : decode cX12_init 636 = .ok (.iastore, 1) := by decide +kernel
theorem dX12_init_637 : decode cX12_init 637 = .ok (.dup, 1) := by decide +kernel
theorem dX12_init_638 : decode cX12_init 638 = .ok (.iconst 3, 1) := by decide +kernel
theorem dX12_init_639 : decode cX12_init 639 = .ok (.iconst 3, 1) := by decide +kernel
theorem dX12_init_640 : decode cX12_init 640 = .ok (.iastore, 1) := by decide +kernel
theorem dX12_init_641 : decode cX12_init 641 = .ok (.dup, 1) := by decide +kernel
theorem dX12_init_642 : decode cX12_init 642 = .ok (.iconst 4, 1) := by decide +kernel
theorem dX12_init_643 : decode cX12_init 643 = .ok (.iconst 4, 1) := by decide +kernel
theorem dX12_init_644 : decode cX12_init 644 = .ok (.iastore, 1) := by decide +kernel
theorem dX12_init_645 : decode cX12_init 645 = .ok (.dup, 1) := by decide +kernel
theorem dX12_init_646 : decode cX12_init 646 = .ok (.iconst 5, 1) := by decide +kernel
theorem dX12_init_647 : decode cX12_init 647 = .ok (.bipush 7, 2) := by decide +kernel
theorem dX12_init_649 : decode cX12_init 649 = .ok (.iastore, 1) := by decide +kernel
theorem dX12_init_650 : decode cX12_init 650 = .ok (.dup, 1) := by decide +kernel
theorem dX12_init_651 : decode cX12_init 651 = .ok (.bipush 6, 2) := by decide +kernel
theorem dX12_init_653 : decode cX12_init 653 = .ok (.bipush 6, 2) := by decide +kernel
theorem dX12_init_655 : decode cX12_init 655 = .ok (.iastore, 1) := by decide +kernel
theorem dX12_init_656 : decode cX12_init 656 = .ok (.dup, 1) := by decide +kernel
theorem dX12_init_657 : decode cX12_init 657 = .ok (.bipush 7, 2) := by decide +kernel
theorem dX12_init_659 : decode cX12_init 659 = .ok (.iconst 3, 1) := by decide +kernel
theorem dX12_init_660 : decode cX12_init 660 = .ok (.iastore, 1) := by decide +kernel
theorem dX12_init_661 : decode cX12_init 661 = .ok (.dup, 1) := by decide +kernel
theorem dX12_init_662 : decode cX12_init 662 = .ok (.bipush 8, 2) := by decide +kernel
theorem dX12_init_664 : decode cX12_init 664 = .ok (.iconst 4, 1) := by decide +kernel
theorem dX12_init_665 : decode cX12_init 665 = .ok (.iastore, 1) := by decide +kernel
theorem dX12_init_666 : decode cX12_init 666 = .ok (.dup, 1) := by decide +kernel
theorem dX12_init_667 : decode cX12_init 667 = .ok (.bipush 9, 2) := by decide +kernel
theorem dX12_init_669 : decode cX12_init 669 = .ok (.iconst 4, 1) := by decide +kernel
theorem dX12_init_670 : decode cX12_init 670 = .ok (.iastore, 1) := by decide +kernel
theorem dX12_init_671 : decode cX12_init 671 = .ok (.dup, 1) := by decide +kernel
theorem dX12_init_672 : decode cX12_init 672 = .ok (.bipush 10, 2) := by decide +kernel
theorem dX12_init_674 : decode cX12_init 674 = .ok (.iconst 2, 1) := by decide +kernel
theorem dX12_init_675 : decode cX12_init 675 = .ok (.iastore, 1) := by decide +kernel
theorem dX12_init_676 : decode cX12_init 676 = .ok (.dup, 1) := by decide +kernel
theorem dX12_init_677 : decode cX12_init 677 = .ok (.bipush 11, 2) := by decide +kernel
theorem dX12_init_679 : decode cX12_init 679 = .ok (.iconst 3, 1) := by decide +kernel
theorem dX12_init_680 : decode cX12_init 680 = .ok (.iastore, 1) := by decide +kernel
theorem dX12_init_681 : decode cX12_init 681 = .ok (.dup, 1) := by decide +kernel
theorem dX12_init_682 : decode cX12_init 682 = .ok (.bipush 12, 2) := by decide +kernel
theorem dX12_init_684 : decode cX12_init 684 = .ok (.iconst 3, 1) := by decide +kernel
theorem dX12_init_685 : decode cX12_init 685 = .ok (.iastore, 1) := by decide +kernel
theorem dX12_init_686 : decode cX12_init 686 = .ok (.putfield 180, 3) := by decide +kernel
theorem dX12_init_689 : decode cX12_init 689 = .ok (.aload_n 0, 1) := by decide +kernel
theorem dX12_init_690 : decode cX12_init 690 = .ok (.sipush 200, 3) := by decide +kernel
theorem dX12_init_693 : decode cX12_init 693 = .ok (.newarray .int, 2) := by decide +kernel
theorem dX12_init_695 : decode cX12_init 695 = .ok (.putfield 183, 3) := by decide +kernel
theorem dX12_init_698 : decode cX12_init 698 = .ok (.aload_n 0, 1) := by decide +kernel
theorem dX12_init_699 : decode cX12_init 699 = .ok (.sipush 200, 3) := by decide +kernel
theorem dX12_init_702 : decode cX12_init 702 = .ok (.newarray .int, 2) := by decide +kernel
theorem dX12_init_704 : decode cX12_init 704 = .ok (.putfield 186, 3) := by decide +kernel
theorem dX12_init_707 : decode cX12_init 707 = .ok (.aload_n 0, 1) := by decide +kernel
theorem dX12_init_708 : decode cX12_init 708 = .ok (.bipush 112, 2) := by decide +kernel
theorem dX12_init_710 : decode cX12_init 710 = .ok (.newarray .boolean, 2) := by decide +kernel
theorem dX12_init_712 : decode cX12_init 712 = .ok (.putfield 189, 3) := by decide +kernel
theorem dX12_init_715 : decode cX12_init 715 = .ok (.aload_n 0, 1) := by decide +kernel
theorem dX12_init_716 : decode cX12_init 716 = .ok (.bipush 14, 2) := by decide +kernel
theorem dX12_init_718 : decode cX12_init 718 = .ok (.newarray .int, 2) := by decide +kernel
theorem dX12_init_720 : decode cX12_init 720 = .ok (.putfield 192, 3) := by decide +kernel
theorem dX12_init_723 : decode cX12_init 723 = .ok (.aload_n 0, 1) := by decide +kernel
theorem dX12_init_724 : decode cX12_init 724 = .ok (.bipush 8, 2) := by decide +kernel
theorem dX12_init_726 : decode cX12_init 726 = .ok (.newarray .int, 2) := by decide +kernel
theorem dX12_init_728 : decode cX12_init 728 = .ok (.putfield 195, 3) := by decide +kernel
theorem dX12_init_731 : decode cX12_init 731 = .ok (.aload_n 0, 1) := by decide +kernel
theorem dX12_init_732 : decode cX12_init 732 = .ok (.bipush 14, 2) := by decide +kernel
theorem dX12_init_734 : decode cX12_init 734 = .ok (.newarray .boolean, 2) := by decide +kernel
theorem dX12_init_736 : decode cX12_init 736 = .ok (.putfield 198, 3) := by decide +kernel
theorem dX12_init_739 : decode cX12_init 739 = .ok (.aload_n 0, 1) := by decide +kernel
theorem dX12_init_740 : decode cX12_init 740 = .ok (.bipush 14, 2) := by decide +kernel
theorem dX12_init_742 : decode cX12_init 742 = .ok (.newarray .int, 2) := by decide +kernel
theorem dX12_init_744 : decode cX12_init 744 = .ok (.putfield 201, 3) := by decide +kernel
theorem dX12_init_747 : decode cX12_init 747 = .ok (.aload_n 0, 1) := by decide +kernel
theorem dX12_init_748 : decode cX12_init 748 = .ok (.bipush 14, 2) := by decide +kernel
theorem dX12_init_750 : decode cX12_init 750 = .ok (.newarray .boolean, 2) := by decide +kernel
theorem dX12_init_752 : decode cX12_init 752 = .ok (.putfield 204, 3) := by decide +kernel
theorem dX12_init_755 : decode cX12_init 755 = .ok (.aload_n 0, 1) := by decide +kernel
theorem dX12_init_756 : decode cX12_init 756 = .ok (.iconst 4, 1) := by decide +kernel
theorem dX12_init_757 : decode cX12_init 757 = .ok (.newarray .int, 2) := by decide +kernel
theorem dX12_init_759 : decode cX12_init 759 = .ok (.dup, 1) := by decide +kernel
theorem dX12_init_760 : decode cX12_init 760 = .ok (.iconst 0, 1) := by decide +kernel
theorem dX12_init_761 : decode cX12_init 761 = .ok (.iconst (-1), 1) := by decide +kernel
theorem dX12_init_762 : decode cX12_init 762 = .ok (.iastore, 1) := by decide +kernel
theorem dX12_init_763 : decode cX12_init 763 = .ok (.dup, 1) := by decide +kernel
theorem dX12_init_764 : decode cX12_init 764 = .ok (.iconst 1, 1) := by decide +kernel
theorem dX12_init_765 : decode cX12_init 765 = .ok (.iconst (-1), 1) := by decide +kernel
theorem dX12_init_766 : decode cX12_init 766 = .ok (.iastore, 1) := by decide +kernel
theorem dX12_init_767 : decode cX12_init 767 = .ok (.dup, 1) := by decide +kernel
theorem dX12_init_768 : decode cX12_init 768 = .ok (.iconst 2, 1) := by decide +kernel
theorem dX12_init_769 : decode cX12_init 769 = .ok (.iconst (-1), 1) := by decide +kernel
theorem dX12_init_770 : decode cX12_init 770 = .ok (.iastore, 1) := by decide +kernel
theorem dX12_init_771 : decode cX12_init 771 = .ok (.dup, 1) := by decide +kernel
theorem dX12_init_772 : decode cX12_init 772 = .ok (.iconst 3, 1) := by decide +kernel
theorem dX12_init_773 : decode cX12_init 773 = .ok (.iconst (-1), 1) := by decide +kernel
theorem dX12_init_774 : decode cX12_init 774 = .ok (.iastore, 1) := by decide +kernel
theorem dX12_init_775 : decode cX12_init 775 = .ok (.putfield 113, 3) := by decide +kernel
theorem dX12_init_778 : decode cX12_init 778 = .ok (.aload_n 0, 1) := by decide +kernel
theorem dX12_init_779 : decode cX12_init 779 = .ok (.iconst 4, 1) := by decide +kernel
theorem dX12_init_780 : decode cX12_init 780 = .ok (.newarray .int, 2) := by decide +kernel
theorem dX12_init_782 : decode cX12_init 782 = .ok (.putfield 116, 3) := by decide +kernel
theorem dX12_init_785 : decode cX12_init 785 = .ok (.aload_n 0, 1) := by decide +kernel
theorem dX12_init_786 : decode cX12_init 786 = .ok (.sipush 160, 3) := by decide +kernel
theorem dX12_init_789 : decode cX12_init 789 = .ok (.newarray .int, 2) := by decide +kernel
theorem dX12_init_791 : decode cX12_init 791 = .ok (.putfield 119, 3) := by decide +kernel
theorem dX12_init_794 : decode cX12_init 794 = .ok (.aload_n 0, 1) := by decide +kernel
theorem dX12_init_795 : decode cX12_init 795 = .ok (.iconst 0, 1) := by decide +kernel
theorem dX12_init_796 : decode cX12_init 796 = .ok (.bipush 101, 2) := by decide +kernel
theorem dX12_init_798 : decode cX12_init 798 = .ok (.iconst 0, 1) := by decide +kernel
theorem dX12_init_799 : decode cX12_init 799 = .ok (.invokevirtual 207, 3) := by decide +kernel
theorem dX12_init_802 : decode cX12_init 802 = .ok (.aload_n 0, 1) := by decide +kernel
theorem dX12_init_803 : decode cX12_init 803 = .ok (.iconst 0, 1) := by decide +kernel
theorem dX12_init_804 : decode cX12_init 804 = .ok (.sipush 200, 3) := by decide +kernel
theorem dX12_init_807 : decode cX12_init 807 = .ok (.sipush 5000, 3) := by decide +kernel
theorem dX12_init_810 : decode cX12_init 810 = .ok (.invokevirtual 207, 3) := by decide +kernel
theorem dX12_init_813 : decode cX12_init 813 = .ok (.aload_n 0, 1) := by decide +kernel
theorem dX12_init_814 : decode cX12_init 814 = .ok (.iconst 0, 1) := by decide +kernel
theorem dX12_init_815 : decode cX12_init 815 = .ok (.bipush 60, 2) := by decide +kernel
theorem dX12_init_817 : decode cX12_init 817 = .ok (.iconst 0, 1) := by decide +kernel
theorem dX12_init_818 : decode cX12_init 818 = .ok (.invokevirtual 207, 3) := by decide +kernel
theorem dX12_init_821 : decode cX12_init 821 = .ok (.aload_n 0, 1) := by decide +kernel
theorem dX12_init_822 : decode cX12_init 822 = .ok (.iconst 1, 1) := by decide +kernel
theorem dX12_init_823 : decode cX12_init 823 = .ok (.sipush 200, 3) := by decide +kernel
theorem dX12_init_826 : decode cX12_init 826 = .ok (.bipush 49, 2) := by decide +kernel
theorem dX12_init_828 : decode cX12_init 828 = .ok (.invokevirtual 207, 3) := by decide +kernel
theorem dX12_init_831 : decode cX12_init 831 = .ok (.aload_n 0, 1) := by decide +kernel
theorem dX12_init_832 : decode cX12_init 832 = .ok (.iconst 1, 1) := by decide +kernel
theorem dX12_init_833 : decode cX12_init 833 = .ok (.bipush 104, 2) := by decide +kernel
theorem dX12_init_835 : decode cX12_init 835 = .ok (.iconst 0, 1) := by decide +kernel
theorem dX12_init_836 : decode cX12_init 836 = .ok (.invokevirtual 207, 3) := by decide +kernel
theorem dX12_init_839 : decode cX12_init 839 = .ok (.aload_n 0, 1) := by decide +kernel
theorem dX12_init_840 : decode cX12_init 840 = .ok (.iconst 1, 1) := by decide +kernel
theorem dX12_init_841 : decode cX12_init 841 = .ok (.bipush 60, 2) := by decide +kernel
theorem dX12_init_843 : decode cX12_init 843 = .ok (.iconst 0, 1) := by decide +kernel
theorem dX12_init_844 : decode cX12_init 844 = .ok (.invokevirtual 207, 3) := by decide +kernel
theorem dX12_init_847 : decode cX12_init 847 = .ok (.aload_n 0, 1) := by decide +kernel
theorem dX12_init_848 : decode cX12_init 848 = .ok (.iconst 2, 1) := by decide +kernel
theorem dX12_init_849 : decode cX12_init 849 = .ok (.bipush 106, 2) := by decide +kernel
theorem dX12_init_851 : decode cX12_init 851 = .ok (.iconst 0, 1) := by decide +kernel
theorem dX12_init_852 : decode cX12_init 852 = .ok (.invokevirtual 207, 3) := by decide +kernel
theorem dX12_init_855 : decode cX12_init 855 = .ok (.aload_n 0, 1) := by decide +kernel
theorem dX12_init_856 : decode cX12_init 856 = .ok (.iconst 1, 1) := by decide +kernel
theorem dX12_init_857 : decode cX12_init 857 = .ok (.putfield 211, 3) := by decide +kernel
theorem dX12_init_860 : decode cX12_init 860 = .ok (.return_, 1) := by decide +kernel
theorem dX12_add_0 : decode cX12_add 0 = .ok (.aload_n 0, 1) := by decide +kernel
theorem dX12_add_1 : decode cX12_add 1 = .ok (.getfield 167, 3) := by decide +kernel
theorem dX12_add_4 : decode cX12_add 4 = .ok (.sipush 160, 3) := by decide +kernel
theorem dX12_add_7 : decode cX12_add 7 = .ok (.iload_n 1, 1) := by decide +kernel
theorem dX12_add_8 : decode cX12_add 8 = .ok (.imul, 1) := by decide +kernel
theorem dX12_add_9 : decode cX12_add 9 = .ok (.aload_n 0, 1) := by decide +kernel
theorem dX12_add_10 : decode cX12_add 10 = .ok (.getfield 164, 3) := by decide +kernel
theorem dX12_add_13 : decode cX12_add 13 = .ok (.iload_n 1, 1) := by decide +kernel
theorem dX12_add_14 : decode cX12_add 14 = .ok (.iaload, 1) := by decide +kernel
theorem dX12_add_15 : decode cX12_add 15 = .ok (.iadd, 1) := by decide +kernel
theorem dX12_add_16 : decode cX12_add 16 = .ok (.iload_n 2, 1) := by decide +kernel
theorem dX12_add_17 : decode cX12_add 17 = .ok (.iastore, 1) := by decide +kernel
theorem dX12_add_18 : decode cX12_add 18 = .ok (.aload_n 0, 1) := by decide +kernel
theorem dX12_add_19 : decode cX12_add 19 = .ok (.getfield 170, 3) := by decide +kernel
theorem dX12_add_22 : decode cX12_add 22 = .ok (.sipush 160, 3) := by decide +kernel
theorem dX12_add_25 : decode cX12_add 25 = .ok (.iload_n 1, 1) := by decide +kernel
theorem dX12_add_26 : decode cX12_add 26 = .ok (.imul, 1) := by decide +kernel
theorem dX12_add_27 : decode cX12_add 27 = .ok (.aload_n 0, 1) := by decide +kernel
theorem dX12_add_28 : decode cX12_add 28 = .ok (.getfield 164, 3) := by decide +kernel
theorem dX12_add_31 : decode cX12_add 31 = .ok (.iload_n 1, 1) := by decide +kernel
theorem dX12_add_32 : decode cX12_add 32 = .ok (.iaload, 1) := by decide +kernel
theorem dX12_add_33 : decode cX12_add 33 = .ok (.iadd, 1) := by decide +kernel
theorem dX12_add_34 : decode cX12_add 34 = .ok (.iload_n 3, 1) := by decide +kernel
theorem dX12_add_35 : decode cX12_add 35 = .ok (.iastore, 1) := by decide +kernel
theorem dX12_add_36 : decode cX12_add 36 = .ok (.aload_n 0, 1) := by decide +kernel
theorem dX12_add_37 : decode cX12_add 37 = .ok (.getfield 164, 3) := by decide +kernel
theorem dX12_add_40 : decode cX12_add 40 = .ok (.iload_n 1, 1) := by decide +kernel
theorem dX12_add_41 : decode cX12_add 41 = .ok (.dup2, 1) := by decide +kernel
theorem dX12_add_42 : decode cX12_add 42 = .ok (.iaload, 1) := by decide +kernel
theorem dX12_add_43 : decode cX12_add 43 = .ok (.iconst 1, 1) := by decide +kernel
theorem dX12_add_44 : decode cX12_add 44 = .ok (.iadd, 1) := by decide +kernel
theorem dX12_add_45 : decode cX12_add 45 = .ok (.iastore, 1) := by decide +kernel
theorem dX12_add_46 : decode cX12_add 46 = .ok (.return_, 1) := by decide +kernel
theorem dX12_isLetter_0 : decode cX12_isLetter 0 = .ok (.iload_n 0, 1) := by decide +kernel
theorem dX12_isLetter_1 : decode cX12_isLetter 1 = .ok (.bipush 97, 2) := by decide +kernel
theorem dX12_isLetter_3 : decode cX12_isLetter 3 = .ok (.if_icmp .lt 13, 3) := by decide +kernel
theorem dX12_isLetter_6 : decode cX12_isLetter 6 = .ok (.iload_n 0, 1) := by decide +kernel
theorem dX12_isLetter_7 : decode cX12_isLetter 7 = .ok (.bipush 122, 2) := by decide +kernel
theorem dX12_isLetter_9 : decode cX12_isLetter 9 = .ok (.if_icmp .gt 7, 3) := by decide +kernel
theorem dX12_isLetter_12 : decode cX12_isLetter 12 = .ok (.iconst 1, 1) := by decide +kernel
theorem dX12_isLetter_13 : decode cX12_isLetter 13 = .ok (.goto 4, 3) := by decide +kernel
theorem dX12_isLetter_16 : decode cX12_isLetter 16 = .ok (.iconst 0, 1) := by decide +kernel
theorem dX12_isLetter_17 : decode cX12_isLetter 17 = .ok (.ireturn, 1) := by decide +kernel
theorem dX12_isDigit_0 : decode cX12_isDigit 0 = .ok (.iload_n 0, 1) := by decide +kernel
theorem dX12_isDigit_1 : decode cX12_isDigit 1 = .ok (.bipush 48, 2) := by decide +kernel
theorem dX12_isDigit_3 : decode cX12_isDigit 3 = .ok (.if_icmp .lt 13, 3) := by decide +kernel
theorem dX12_isDigit_6 : decode cX12_isDigit 6 = .ok (.iload_n 0, 1) := by decide +kernel
theorem dX12_isDigit_7 : decode cX12_isDigit 7 = .ok (.bipush 57, 2) := by decide +kernel
theorem dX12_isDigit_9 : decode cX12_isDigit 9 = .ok (.if_icmp .gt 7, 3) := by decide +kernel
theorem dX12_isDigit_12 : decode cX12_isDigit 12 = .ok (.iconst 1, 1) := by decide +kernel
theorem dX12_isDigit_13 : decode cX12_isDigit 13 = .ok (.goto 4, 3) := by decide +kernel
theorem dX12_isDigit_16 : decode cX12_isDigit 16 = .ok (.iconst 0, 1) := by decide +kernel
theorem dX12_isDigit_17 : decode cX12_isDigit 17 = .ok (.ireturn, 1) := by decide +kernel
theorem dX12_letter_0 : decode cX12_letter 0 = .ok (.iload_n 1, 1) := by decide +kernel
theorem dX12_letter_1 : decode cX12_letter 1 = .ok (.aload_n 0, 1) := by decide +kernel
theorem dX12_letter_2 : decode cX12_letter 2 = .ok (.getfield 214, 3) := by decide +kernel
theorem dX12_letter_5 : decode cX12_letter 5 = .ok (.if_icmp .ge 16, 3) := by decide +kernel
theorem dX12_letter_8 : decode cX12_letter 8 = .ok (.aload_n 0, 1) := by decide +kernel
theorem dX12_letter_9 : decode cX12_letter 9 = .ok (.getfield 160, 3) := by decide +kernel
theorem dX12_letter_12 : decode cX12_letter 12 = .ok (.iload_n 1, 1) := by decide +kernel
theorem dX12_letter_13 : decode cX12_letter 13 = .ok (.baload, 1) := by decide +kernel
theorem dX12_letter_14 : decode cX12_letter 14 = .ok (.sipush 255, 3) := by decide +kernel
theorem dX12_letter_17 : decode cX12_letter 17 = .ok (.iand, 1) := by decide +kernel
theorem dX12_letter_18 : decode cX12_letter 18 = .ok (.goto 4, 3) := by decide +kernel
theorem dX12_letter_21 : decode cX12_letter 21 = .ok (.iconst (-1), 1) := by decide +kernel
theorem dX12_letter_22 : decode cX12_letter 22 = .ok (.ireturn, 1) := by decide +kernel
theorem dX12_wordAt_0 : decode cX12_wordAt 0 = .ok (.iconst 0, 1) := by decide +kernel
theorem dX12_wordAt_1 : decode cX12_wordAt 1 = .ok (.istore_n 3, 1) := by decide +kernel
theorem dX12_wordAt_2 : decode cX12_wordAt 2 = .ok (.iload_n 3, 1) := by decide +kernel
theorem dX12_wordAt_3 : decode cX12_wordAt 3 = .ok (.bipush 13, 2) := by decide +kernel
theorem dX12_wordAt_5 : decode cX12_wordAt 5 = .ok (.if_icmp .ge 88, 3) := by decide +kernel
theorem dX12_wordAt_8 : decode cX12_wordAt 8 = .ok (.aload_n 0, 1) := by decide +kernel
theorem dX12_wordAt_9 : decode cX12_wordAt 9 = .ok (.getfield 180, 3) := by decide +kernel
theorem dX12_wordAt_12 : decode cX12_wordAt 12 = .ok (.iload_n 3, 1) := by decide +kernel
theorem dX12_wordAt_13 : decode cX12_wordAt 13 = .ok (.iaload, 1) := by decide +kernel
theorem dX12_wordAt_14 : decode cX12_wordAt 14 = .ok (.iload_n 2, 1) := by decide +kernel
theorem dX12_wordAt_15 : decode cX12_wordAt 15 = .ok (.if_icmp .ne 7, 3) := by decide +kernel
theorem dX12_wordAt_18 : decode cX12_wordAt 18 = .ok (.iconst 1, 1) := by decide +kernel
theorem dX12_wordAt_19 : decode cX12_wordAt 19 = .ok (.goto 4, 3) := by decide +kernel
theorem dX12_wordAt_22 : decode cX12_wordAt 22 = .ok (.iconst 0, 1) := by decide +kernel
theorem dX12_wordAt_23 : decode cX12_wordAt 23 = .ok (.istore 4, 2) := by decide +kernel
theorem dX12_wordAt_25 : decode cX12_wordAt 25 = .ok (.iconst 0, 1) := by decide +kernel
theorem dX12_wordAt_26 : decode cX12_wordAt 26 = .ok (.istore 5, 2) := by decide +kernel
theorem dX12_wordAt_28 : decode cX12_wordAt 28 = .ok (.iload 5, 2) := by decide +kernel
theorem dX12_wordAt_30 : decode cX12_wordAt 30 = .ok (.iload_n 2, 1) := by decide +kernel
theorem dX12_wordAt_31 : decode cX12_wordAt 31 = .ok (.if_icmp .ge 46, 3) := by decide +kernel
theorem dX12_wordAt_34 : decode cX12_wordAt 34 = .ok (.iload 4, 2) := by decide +kernel
theorem dX12_wordAt_36 : decode cX12_wordAt 36 = .ok (.ifCond .eq 41, 3) := by decide +kernel
theorem dX12_wordAt_39 : decode cX12_wordAt 39 = .ok (.aload_n 0, 1) := by decide +kernel
theorem dX12_wordAt_40 : decode cX12_wordAt 40 = .ok (.iload_n 1, 1) := by decide +kernel
theorem dX12_wordAt_41 : decode cX12_wordAt 41 = .ok (.iload 5, 2) := by decide +kernel
theorem dX12_wordAt_43 : decode cX12_wordAt 43 = .ok (.iadd, 1) := by decide +kernel
theorem dX12_wordAt_44 : decode cX12_wordAt 44 = .ok (.invokevirtual 217, 3) := by decide +kernel
theorem dX12_wordAt_47 : decode cX12_wordAt 47 = .ok (.aload_n 0, 1) := by decide +kernel
theorem dX12_wordAt_48 : decode cX12_wordAt 48 = .ok (.getfield 173, 3) := by decide +kernel
theorem dX12_wordAt_51 : decode cX12_wordAt 51 = .ok (.aload_n 0, 1) := by decide +kernel
theorem dX12_wordAt_52 : decode cX12_wordAt 52 = .ok (.getfield 177, 3) := by decide +kernel
theorem dX12_wordAt_55 : decode cX12_wordAt 55 = .ok (.iload_n 3, 1) := by decide +kernel
theorem dX12_wordAt_56 : decode cX12_wordAt 56 = .ok (.iaload, 1) := by decide +kernel
theorem dX12_wordAt_57 : decode cX12_wordAt 57 = .ok (.iload 5, 2) := by decide +kernel
theorem dX12_wordAt_59 : decode cX12_wordAt 59 = .ok (.iadd, 1) := by decide +kernel
theorem dX12_wordAt_60 : decode cX12_wordAt 60 = .ok (.caload, 1) := by decide +kernel
theorem dX12_wordAt_61 : decode cX12_wordAt 61 = .ok (.if_icmp .ne 7, 3) := by decide +kernel
theorem dX12_wordAt_64 : decode cX12_wordAt 64 = .ok (.iconst 1, 1) := by decide +kernel
theorem dX12_wordAt_65 : decode cX12_wordAt 65 = .ok (.goto 4, 3) := by decide +kernel
theorem dX12_wordAt_68 : decode cX12_wordAt 68 = .ok (.iconst 0, 1) := by decide +kernel
theorem dX12_wordAt_69 : decode cX12_wordAt 69 = .ok (.istore 4, 2) := by decide +kernel
theorem dX12_wordAt_71 : decode cX12_wordAt 71 = .ok (.iinc 5 1, 3) := by decide +kernel
theorem dX12_wordAt_74 : decode cX12_wordAt 74 = .ok (.goto (-46), 3) := by decide +kernel
theorem dX12_wordAt_77 : decode cX12_wordAt 77 = .ok (.iload 4, 2) := by decide +kernel
theorem dX12_wordAt_79 : decode cX12_wordAt 79 = .ok (.ifCond .eq 8, 3) := by decide +kernel
theorem dX12_wordAt_82 : decode cX12_wordAt 82 = .ok (.bipush 100, 2) := by decide +kernel
theorem dX12_wordAt_84 : decode cX12_wordAt 84 = .ok (.iload_n 3, 1) := by decide +kernel
theorem dX12_wordAt_85 : decode cX12_wordAt 85 = .ok (.iadd, 1) := by decide +kernel
theorem dX12_wordAt_86 : decode cX12_wordAt 86 = .ok (.ireturn, 1) := by decide +kernel
theorem dX12_wordAt_87 : decode cX12_wordAt 87 = .ok (.iinc 3 1, 3) := by decide +kernel
theorem dX12_wordAt_90 : decode cX12_wordAt 90 = .ok (.goto (-88), 3) := by decide +kernel
theorem dX12_wordAt_93 : decode cX12_wordAt 93 = .ok (.iconst (-1), 1) := by decide +kernel
theorem dX12_wordAt_94 : decode cX12_wordAt 94 = .ok (.ireturn, 1) := by decide +kernel
theorem dX12_isSign_0 : decode cX12_isSign 0 = .ok (.iload_n 0, 1) := by decide +kernel
theorem dX12_isSign_1 : decode cX12_isSign 1 = .ok (.bipush 40, 2) := by decide +kernel
theorem dX12_isSign_3 : decode cX12_isSign 3 = .ok (.if_icmp .eq 45, 3) := by decide +kernel
theorem dX12_isSign_6 : decode cX12_isSign 6 = .ok (.iload_n 0, 1) := by decide +kernel
theorem dX12_isSign_7 : decode cX12_isSign 7 = .ok (.bipush 41, 2) := by decide +kernel
theorem dX12_isSign_9 : decode cX12_isSign 9 = .ok (.if_icmp .eq 39, 3) := by decide +kernel
theorem dX12_isSign_12 : decode cX12_isSign 12 = .ok (.iload_n 0, 1) := by decide +kernel
theorem dX12_isSign_13 : decode cX12_isSign 13 = .ok (.bipush 59, 2) := by decide +kernel
theorem dX12_isSign_15 : decode cX12_isSign 15 = .ok (.if_icmp .eq 33, 3) := by decide +kernel
theorem dX12_isSign_18 : decode cX12_isSign 18 = .ok (.iload_n 0, 1) := by decide +kernel
theorem dX12_isSign_19 : decode cX12_isSign 19 = .ok (.bipush 43, 2) := by decide +kernel
theorem dX12_isSign_21 : decode cX12_isSign 21 = .ok (.if_icmp .eq 27, 3) := by decide +kernel
theorem dX12_isSign_24 : decode cX12_isSign 24 = .ok (.iload_n 0, 1) := by decide +kernel
theorem dX12_isSign_25 : decode cX12_isSign 25 = .ok (.bipush 45, 2) := by decide +kernel
theorem dX12_isSign_27 : decode cX12_isSign 27 = .ok (.if_icmp .eq 21, 3) := by decide +kernel
theorem dX12_isSign_30 : decode cX12_isSign 30 = .ok (.iload_n 0, 1) := by decide +kernel
theorem dX12_isSign_31 : decode cX12_isSign 31 = .ok (.bipush 42, 2) := by decide +kernel
theorem dX12_isSign_33 : decode cX12_isSign 33 = .ok (.if_icmp .eq 15, 3) := by decide +kernel
theorem dX12_isSign_36 : decode cX12_isSign 36 = .ok (.iload_n 0, 1) := by decide +kernel
theorem dX12_isSign_37 : decode cX12_isSign 37 = .ok (.bipush 60, 2) := by decide +kernel
theorem dX12_isSign_39 : decode cX12_isSign 39 = .ok (.if_icmp .eq 9, 3) := by decide +kernel
theorem dX12_isSign_42 : decode cX12_isSign 42 = .ok (.iload_n 0, 1) := by decide +kernel
theorem dX12_isSign_43 : decode cX12_isSign 43 = .ok (.bipush 61, 2) := by decide +kernel
theorem dX12_isSign_45 : decode cX12_isSign 45 = .ok (.if_icmp .ne 7, 3) := by decide +kernel
theorem dX12_isSign_48 : decode cX12_isSign 48 = .ok (.iconst 1, 1) := by decide +kernel
theorem dX12_isSign_49 : decode cX12_isSign 49 = .ok (.goto 4, 3) := by decide +kernel
theorem dX12_isSign_52 : decode cX12_isSign 52 = .ok (.iconst 0, 1) := by decide +kernel
theorem dX12_isSign_53 : decode cX12_isSign 53 = .ok (.ireturn, 1) := by decide +kernel
theorem dX12_next_0 : decode cX12_next 0 = .ok (.aload_n 0, 1) := by decide +kernel
theorem dX12_next_1 : decode cX12_next 1 = .ok (.aload_n 0, 1) := by decide +kernel
theorem dX12_next_2 : decode cX12_next 2 = .ok (.getfield 220, 3) := by decide +kernel
theorem dX12_next_5 : decode cX12_next 5 = .ok (.invokevirtual 217, 3) := by decide +kernel
theorem dX12_next_8 : decode cX12_next 8 = .ok (.bipush 32, 2) := by decide +kernel
theorem dX12_next_10 : decode cX12_next 10 = .ok (.if_icmp .eq 16, 3) := by decide +kernel
theorem dX12_next_13 : decode cX12_next 13 = .ok (.aload_n 0, 1) := by decide +kernel
theorem dX12_next_14 : decode cX12_next 14 = .ok (.aload_n 0, 1) := by decide +kernel
theorem dX12_next_15 : decode cX12_next 15 = .ok (.getfield 220, 3) := by decide +kernel
theorem dX12_next_18 : decode cX12_next 18 = .ok (.invokevirtual 217, 3) := by decide +kernel
theorem dX12_next_21 : decode cX12_next 21 = .ok (.bipush 10, 2) := by decide +kernel
theorem dX12_next_23 : decode cX12_next 23 = .ok (.if_icmp .ne 16, 3) := by decide +kernel
theorem dX12_next_26 : decode cX12_next 26 = .ok (.aload_n 0, 1) := by decide +kernel
theorem dX12_next_27 : decode cX12_next 27 = .ok (.dup, 1) := by decide +kernel
theorem dX12_next_28 : decode cX12_next 28 = .ok (.getfield 220, 3) := by decide +kernel
theorem dX12_next_31 : decode cX12_next 31 = .ok (.iconst 1, 1) := by decide +kernel
theorem dX12_next_32 : decode cX12_next 32 = .ok (.iadd, 1) := by decide +kernel
theorem dX12_next_33 : decode cX12_next 33 = .ok (.putfield 220, 3) := by decide +kernel
theorem dX12_next_36 : decode cX12_next 36 = .ok (.goto (-36), 3) := by decide +kernel
theorem dX12_next_39 : decode cX12_next 39 = .ok (.aload_n 0, 1) := by decide +kernel
theorem dX12_next_40 : decode cX12_next 40 = .ok (.aload_n 0, 1) := by decide +kernel
theorem dX12_next_41 : decode cX12_next 41 = .ok (.getfield 220, 3) := by decide +kernel
theorem dX12_next_44 : decode cX12_next 44 = .ok (.putfield 223, 3) := by decide +kernel
theorem dX12_next_47 : decode cX12_next 47 = .ok (.aload_n 0, 1) := by decide +kernel
theorem dX12_next_48 : decode cX12_next 48 = .ok (.aload_n 0, 1) := by decide +kernel
theorem dX12_next_49 : decode cX12_next 49 = .ok (.getfield 220, 3) := by decide +kernel
theorem dX12_next_52 : decode cX12_next 52 = .ok (.invokevirtual 217, 3) := by decide +kernel
theorem dX12_next_55 : decode cX12_next 55 = .ok (.istore_n 1, 1) := by decide +kernel
theorem dX12_next_56 : decode cX12_next 56 = .ok (.iconst 0, 1) := by decide +kernel
theorem dX12_next_57 : decode cX12_next 57 = .ok (.istore_n 2, 1) := by decide +kernel
theorem dX12_next_58 : decode cX12_next 58 = .ok (.iload_n 1, 1) := by decide +kernel
theorem dX12_next_59 : decode cX12_next 59 = .ok (.ifCond .ge 11, 3) := by decide +kernel
theorem dX12_next_62 : decode cX12_next 62 = .ok (.aload_n 0, 1) := by decide +kernel
theorem dX12_next_63 : decode cX12_next 63 = .ok (.iconst 0, 1) := by decide +kernel
theorem dX12_next_64 : decode cX12_next 64 = .ok (.putfield 226, 3) := by decide +kernel
theorem dX12_next_67 : decode cX12_next 67 = .ok (.goto 156, 3) := by decide +kernel
theorem dX12_next_70 : decode cX12_next 70 = .ok (.iload_n 1, 1) := by decide +kernel
theorem dX12_next_71 : decode cX12_next 71 = .ok (.invokestatic 229, 3) := by decide +kernel
theorem dX12_next_74 : decode cX12_next 74 = .ok (.ifCond .eq 41, 3) := by decide +kernel
theorem dX12_next_77 : decode cX12_next 77 = .ok (.aload_n 0, 1) := by decide +kernel
theorem dX12_next_78 : decode cX12_next 78 = .ok (.aload_n 0, 1) := by decide +kernel
theorem dX12_next_79 : decode cX12_next 79 = .ok (.getfield 220, 3) := by decide +kernel
theorem dX12_next_82 : decode cX12_next 82 = .ok (.iload_n 2, 1) := by decide +kernel
theorem dX12_next_83 : decode cX12_next 83 = .ok (.iadd, 1) := by decide +kernel
theorem dX12_next_84 : decode cX12_next 84 = .ok (.invokevirtual 217, 3) := by decide +kernel
theorem dX12_next_87 : decode cX12_next 87 = .ok (.invokestatic 229, 3) := by decide +kernel
theorem dX12_next_90 : decode cX12_next 90 = .ok (.ifCond .eq 9, 3) := by decide +kernel
theorem dX12_next_93 : decode cX12_next 93 = .ok (.iinc 2 1, 3) := by decide +kernel
theorem dX12_next_96 : decode cX12_next 96 = .ok (.goto (-19), 3) := by decide +kernel
theorem dX12_next_99 : decode cX12_next 99 = .ok (.aload_n 0, 1) := by decide +kernel
theorem dX12_next_100 : decode cX12_next 100 = .ok (.aload_n 0, 1) := by decide +kernel
theorem dX12_next_101 : decode cX12_next 101 = .ok (.aload_n 0, 1) := by decide +kernel
theorem dX12_next_102 : decode cX12_next 102 = .ok (.getfield 220, 3) := by decide +kernel
theorem dX12_next_105 : decode cX12_next 105 = .ok (.iload_n 2, 1) := by decide +kernel
theorem dX12_next_106 : decode cX12_next 106 = .ok (.invokevirtual 232, 3) := by decide +kernel
theorem dX12_next_109 : decode cX12_next 109 = .ok (.putfield 226, 3) := by decide +kernel
theorem dX12_next_112 : decode cX12_next 112 = .ok (.goto 111, 3) := by decide +kernel
theorem dX12_next_115 : decode cX12_next 115 = .ok (.iload_n 1, 1) := by decide +kernel
theorem dX12_next_116 : decode cX12_next 116 = .ok (.invokestatic 235, 3) := by decide +kernel
theorem dX12_next_119 : decode cX12_next 119 = .ok (.ifCond .eq 86, 3) := by decide +kernel
theorem dX12_next_122 : decode cX12_next 122 = .ok (.aload_n 0, 1) := by decide +kernel
theorem dX12_next_123 : decode cX12_next 123 = .ok (.iconst 0, 1) := by decide +kernel
theorem dX12_next_124 : decode cX12_next 124 = .ok (.putfield 238, 3) := by decide +kernel
theorem dX12_next_127 : decode cX12_next 127 = .ok (.aload_n 0, 1) := by decide +kernel
theorem dX12_next_128 : decode cX12_next 128 = .ok (.aload_n 0, 1) := by decide +kernel
theorem dX12_next_129 : decode cX12_next 129 = .ok (.getfield 220, 3) := by decide +kernel
theorem dX12_next_132 : decode cX12_next 132 = .ok (.iload_n 2, 1) := by decide +kernel
theorem dX12_next_133 : decode cX12_next 133 = .ok (.iadd, 1) := by decide +kernel
theorem dX12_next_134 : decode cX12_next 134 = .ok (.invokevirtual 217, 3) := by decide +kernel
theorem dX12_next_137 : decode cX12_next 137 = .ok (.invokestatic 235, 3) := by decide +kernel
theorem dX12_next_140 : decode cX12_next 140 = .ok (.ifCond .eq 46, 3) := by decide +kernel
theorem dX12_next_143 : decode cX12_next 143 = .ok (.aload_n 0, 1) := by decide +kernel
theorem dX12_next_144 : decode cX12_next 144 = .ok (.iload_n 2, 1) := by decide +kernel
theorem dX12_next_145 : decode cX12_next 145 = .ok (.iconst 4, 1) := by decide +kernel
theorem dX12_next_146 : decode cX12_next 146 = .ok (.if_icmp .ge 27, 3) := by decide +kernel
theorem dX12_next_149 : decode cX12_next 149 = .ok (.bipush 10, 2) := by decide +kernel
theorem dX12_next_151 : decode cX12_next 151 = .ok (.aload_n 0, 1) := by decide +kernel
theorem dX12_next_152 : decode cX12_next 152 = .ok (.getfield 238, 3) := by decide +kernel
theorem dX12_next_155 : decode cX12_next 155 = .ok (.imul, 1) := by decide +kernel
theorem dX12_next_156 : decode cX12_next 156 = .ok (.aload_n 0, 1) := by decide +kernel
theorem dX12_next_157 : decode cX12_next 157 = .ok (.aload_n 0, 1) := by decide +kernel
theorem dX12_next_158 : decode cX12_next 158 = .ok (.getfield 220, 3) := by decide +kernel
theorem dX12_next_161 : decode cX12_next 161 = .ok (.iload_n 2, 1) := by decide +kernel
theorem dX12_next_162 : decode cX12_next 162 = .ok (.iadd, 1) := by decide +kernel
theorem dX12_next_163 : decode cX12_next 163 = .ok (.invokevirtual 217, 3) := by decide +kernel
theorem dX12_next_166 : decode cX12_next 166 = .ok (.iadd, 1) := by decide +kernel
theorem dX12_next_167 : decode cX12_next 167 = .ok (.bipush 48, 2) := by decide +kernel
theorem dX12_next_169 : decode cX12_next 169 = .ok (.isub, 1) := by decide +kernel
theorem dX12_next_170 : decode cX12_next 170 = .ok (.goto 7, 3) := by decide +kernel
theorem dX12_next_173 : decode cX12_next 173 = .ok (.aload_n 0, 1) := by decide +kernel
theorem dX12_next_174 : decode cX12_next 174 = .ok (.getfield 238, 3) := by decide +kernel
theorem dX12_next_177 : decode cX12_next 177 = .ok (.putfield 238, 3) := by decide +kernel
theorem dX12_next_180 : decode cX12_next 180 = .ok (.iinc 2 1, 3) := by decide +kernel
theorem dX12_next_183 : decode cX12_next 183 = .ok (.goto (-56), 3) := by decide +kernel
theorem dX12_next_186 : decode cX12_next 186 = .ok (.aload_n 0, 1) := by decide +kernel
theorem dX12_next_187 : decode cX12_next 187 = .ok (.iload_n 2, 1) := by decide +kernel
theorem dX12_next_188 : decode cX12_next 188 = .ok (.iconst 4, 1) := by decide +kernel
theorem dX12_next_189 : decode cX12_next 189 = .ok (.if_icmp .le 7, 3) := by decide +kernel
theorem dX12_next_192 : decode cX12_next 192 = .ok (.iconst (-1), 1) := by decide +kernel
theorem dX12_next_193 : decode cX12_next 193 = .ok (.goto 6, 3) := by decide +kernel
theorem dX12_next_196 : decode cX12_next 196 = .ok (.sipush 200, 3) := by decide +kernel
theorem dX12_next_199 : decode cX12_next 199 = .ok (.putfield 226, 3) := by decide +kernel
theorem dX12_next_202 : decode cX12_next 202 = .ok (.goto 21, 3) := by decide +kernel
theorem dX12_next_205 : decode cX12_next 205 = .ok (.iconst 1, 1) := by decide +kernel
theorem dX12_next_206 : decode cX12_next 206 = .ok (.istore_n 2, 1) := by decide +kernel
theorem dX12_next_207 : decode cX12_next 207 = .ok (.aload_n 0, 1) := by decide +kernel
theorem dX12_next_208 : decode cX12_next 208 = .ok (.iload_n 1, 1) := by decide +kernel
theorem dX12_next_209 : decode cX12_next 209 = .ok (.invokestatic 241, 3) := by decide +kernel
theorem dX12_next_212 : decode cX12_next 212 = .ok (.ifCond .eq 7, 3) := by decide +kernel
theorem dX12_next_215 : decode cX12_next 215 = .ok (.iload_n 1, 1) := by decide +kernel
theorem dX12_next_216 : decode cX12_next 216 = .ok (.goto 4, 3) := by decide +kernel
theorem dX12_next_219 : decode cX12_next 219 = .ok (.iconst (-1), 1) := by decide +kernel
theorem dX12_next_220 : decode cX12_next 220 = .ok (.putfield 226, 3) := by decide +kernel
theorem dX12_next_223 : decode cX12_next 223 = .ok (.aload_n 0, 1) := by decide +kernel
theorem dX12_next_224 : decode cX12_next 224 = .ok (.dup, 1) := by decide +kernel
theorem dX12_next_225 : decode cX12_next 225 = .ok (.getfield 220, 3) := by decide +kernel
theorem dX12_next_228 : decode cX12_next 228 = .ok (.iload_n 2, 1) := by decide +kernel
theorem dX12_next_229 : decode cX12_next 229 = .ok (.iadd, 1) := by decide +kernel
theorem dX12_next_230 : decode cX12_next 230 = .ok (.putfield 220, 3) := by decide +kernel
theorem dX12_next_233 : decode cX12_next 233 = .ok (.return_, 1) := by decide +kernel
theorem dX12_rankOf_0 : decode cX12_rankOf 0 = .ok (.iload_n 0, 1) := by decide +kernel
theorem dX12_rankOf_1 : decode cX12_rankOf 1 = .ok (.lookupswitch 99 #[(42, 93), (43, 91), (45, 91), (60, 89), (61, 89), (110, 83), (111, 85), (112, 87), (300, 96)], 83) := by decide +kernel
theorem dX12_rankOf_84 : decode cX12_rankOf 84 = .ok (.iconst 1, 1) := by decide +kernel
theorem dX12_rankOf_85 : decode cX12_rankOf 85 = .ok (.ireturn, 1) := by decide +kernel
theorem dX12_rankOf_86 : decode cX12_rankOf 86 = .ok (.iconst 2, 1) := by decide +kernel
theorem dX12_rankOf_87 : decode cX12_rankOf 87 = .ok (.ireturn, 1) := by decide +kernel
theorem dX12_rankOf_88 : decode cX12_rankOf 88 = .ok (.iconst 3, 1) := by decide +kernel
theorem dX12_rankOf_89 : decode cX12_rankOf 89 = .ok (.ireturn, 1) := by decide +kernel
theorem dX12_rankOf_90 : decode cX12_rankOf 90 = .ok (.iconst 4, 1) := by decide +kernel
theorem dX12_rankOf_91 : decode cX12_rankOf 91 = .ok (.ireturn, 1) := by decide +kernel
theorem dX12_rankOf_92 : decode cX12_rankOf 92 = .ok (.iconst 5, 1) := by decide +kernel
theorem dX12_rankOf_93 : decode cX12_rankOf 93 = .ok (.ireturn, 1) := by decide +kernel
theorem dX12_rankOf_94 : decode cX12_rankOf 94 = .ok (.bipush 6, 2) := by decide +kernel
theorem dX12_rankOf_96 : decode cX12_rankOf 96 = .ok (.ireturn, 1) := by decide +kernel
theorem dX12_rankOf_97 : decode cX12_rankOf 97 = .ok (.bipush 7, 2) := by decide +kernel
theorem dX12_rankOf_99 : decode cX12_rankOf 99 = .ok (.ireturn, 1) := by decide +kernel
theorem dX12_rankOf_100 : decode cX12_rankOf 100 = .ok (.iconst 0, 1) := by decide +kernel
theorem dX12_rankOf_101 : decode cX12_rankOf 101 = .ok (.ireturn, 1) := by decide +kernel
theorem dX12_settle_0 : decode cX12_settle 0 = .ok (.aload_n 0, 1) := by decide +kernel
theorem dX12_settle_1 : decode cX12_settle 1 = .ok (.getfield 244, 3) := by decide +kernel
theorem dX12_settle_4 : decode cX12_settle 4 = .ok (.ifCond .le 49, 3) := by decide +kernel
theorem dX12_settle_7 : decode cX12_settle 7 = .ok (.aload_n 0, 1) := by decide +kernel
theorem dX12_settle_8 : decode cX12_settle 8 = .ok (.getfield 183, 3) := by decide +kernel
theorem dX12_settle_11 : decode cX12_settle 11 = .ok (.aload_n 0, 1) := by decide +kernel
theorem dX12_settle_12 : decode cX12_settle 12 = .ok (.getfield 244, 3) := by decide +kernel
theorem dX12_settle_15 : decode cX12_settle 15 = .ok (.iconst 1, 1) := by decide +kernel
theorem dX12_settle_16 : decode cX12_settle 16 = .ok (.isub, 1) := by decide +kernel
theorem dX12_settle_17 : decode cX12_settle 17 = .ok (.iaload, 1) := by decide +kernel
theorem dX12_settle_18 : decode cX12_settle 18 = .ok (.invokestatic 247, 3) := by decide +kernel
theorem dX12_settle_21 : decode cX12_settle 21 = .ok (.iload_n 2, 1) := by decide +kernel
theorem dX12_settle_22 : decode cX12_settle 22 = .ok (.if_icmp .lt 31, 3) := by decide +kernel
theorem dX12_settle_25 : decode cX12_settle 25 = .ok (.aload_n 0, 1) := by decide +kernel
theorem dX12_settle_26 : decode cX12_settle 26 = .ok (.dup, 1) := by decide +kernel
theorem dX12_settle_27 : decode cX12_settle 27 = .ok (.getfield 244, 3) := by decide +kernel
theorem dX12_settle_30 : decode cX12_settle 30 = .ok (.iconst 1, 1) := by decide +kernel
theorem dX12_settle_31 : decode cX12_settle 31 = .ok (.isub, 1) := by decide +kernel
theorem dX12_settle_32 : decode cX12_settle 32 = .ok (.putfield 244, 3) := by decide +kernel
theorem dX12_settle_35 : decode cX12_settle 35 = .ok (.aload_n 0, 1) := by decide +kernel
theorem dX12_settle_36 : decode cX12_settle 36 = .ok (.iload_n 1, 1) := by decide +kernel
theorem dX12_settle_37 : decode cX12_settle 37 = .ok (.aload_n 0, 1) := by decide +kernel
theorem dX12_settle_38 : decode cX12_settle 38 = .ok (.getfield 183, 3) := by decide +kernel
theorem dX12_settle_41 : decode cX12_settle 41 = .ok (.aload_n 0, 1) := by decide +kernel
theorem dX12_settle_42 : decode cX12_settle 42 = .ok (.getfield 244, 3) := by decide +kernel
theorem dX12_settle_45 : decode cX12_settle 45 = .ok (.iaload, 1) := by decide +kernel
theorem dX12_settle_46 : decode cX12_settle 46 = .ok (.iconst 0, 1) := by decide +kernel
theorem dX12_settle_47 : decode cX12_settle 47 = .ok (.invokevirtual 207, 3) := by decide +kernel
theorem dX12_settle_50 : decode cX12_settle 50 = .ok (.goto (-50), 3) := by decide +kernel
theorem dX12_settle_53 : decode cX12_settle 53 = .ok (.return_, 1) := by decide +kernel
theorem dX12_openMany_0 : decode cX12_openMany 0 = .ok (.iconst 0, 1) := by decide +kernel
theorem dX12_openMany_1 : decode cX12_openMany 1 = .ok (.istore_n 1, 1) := by decide +kernel
theorem dX12_openMany_2 : decode cX12_openMany 2 = .ok (.iconst 0, 1) := by decide +kernel
theorem dX12_openMany_3 : decode cX12_openMany 3 = .ok (.istore_n 2, 1) := by decide +kernel
theorem dX12_openMany_4 : decode cX12_openMany 4 = .ok (.iload_n 2, 1) := by decide +kernel
theorem dX12_openMany_5 : decode cX12_openMany 5 = .ok (.aload_n 0, 1) := by decide +kernel
theorem dX12_openMany_6 : decode cX12_openMany 6 = .ok (.getfield 244, 3) := by decide +kernel
theorem dX12_openMany_9 : decode cX12_openMany 9 = .ok (.if_icmp .ge 51, 3) := by decide +kernel
theorem dX12_openMany_12 : decode cX12_openMany 12 = .ok (.iload_n 1, 1) := by decide +kernel
theorem dX12_openMany_13 : decode cX12_openMany 13 = .ok (.aload_n 0, 1) := by decide +kernel
theorem dX12_openMany_14 : decode cX12_openMany 14 = .ok (.getfield 183, 3) := by decide +kernel
theorem dX12_openMany_17 : decode cX12_openMany 17 = .ok (.iload_n 2, 1) := by decide +kernel
theorem dX12_openMany_18 : decode cX12_openMany 18 = .ok (.iaload, 1) := by decide +kernel
theorem dX12_openMany_19 : decode cX12_openMany 19 = .ok (.bipush 40, 2) := by decide +kernel
theorem dX12_openMany_21 : decode cX12_openMany 21 = .ok (.if_icmp .eq 26, 3) := by decide +kernel
theorem dX12_openMany_24 : decode cX12_openMany 24 = .ok (.aload_n 0, 1) := by decide +kernel
theorem dX12_openMany_25 : decode cX12_openMany 25 = .ok (.getfield 183, 3) := by decide +kernel
theorem dX12_openMany_28 : decode cX12_openMany 28 = .ok (.iload_n 2, 1) := by decide +kernel
theorem dX12_openMany_29 : decode cX12_openMany 29 = .ok (.iaload, 1) := by decide +kernel
theorem dX12_openMany_30 : decode cX12_openMany 30 = .ok (.bipush 112, 2) := by decide +kernel
theorem dX12_openMany_32 : decode cX12_openMany 32 = .ok (.if_icmp .eq 15, 3) := by decide +kernel
theorem dX12_openMany_35 : decode cX12_openMany 35 = .ok (.aload_n 0, 1) := by decide +kernel
theorem dX12_openMany_36 : decode cX12_openMany 36 = .ok (.getfield 183, 3) := by decide +kernel
theorem dX12_openMany_39 : decode cX12_openMany 39 = .ok (.iload_n 2, 1) := by decide +kernel
theorem dX12_openMany_40 : decode cX12_openMany 40 = .ok (.iaload, 1) := by decide +kernel
theorem dX12_openMany_41 : decode cX12_openMany 41 = .ok (.sipush 300, 3) := by decide +kernel
theorem dX12_openMany_44 : decode cX12_openMany 44 = .ok (.if_icmp .ne 7, 3) := by decide +kernel
theorem dX12_openMany_47 : decode cX12_openMany 47 = .ok (.iconst 1, 1) := by decide +kernel
theorem dX12_openMany_48 : decode cX12_openMany 48 = .ok (.goto 4, 3) := by decide +kernel
theorem dX12_openMany_51 : decode cX12_openMany 51 = .ok (.iconst 0, 1) := by decide +kernel
theorem dX12_openMany_52 : decode cX12_openMany 52 = .ok (.iadd, 1) := by decide +kernel
theorem dX12_openMany_53 : decode cX12_openMany 53 = .ok (.istore_n 1, 1) := by decide +kernel
theorem dX12_openMany_54 : decode cX12_openMany 54 = .ok (.iinc 2 1, 3) := by decide +kernel
theorem dX12_openMany_57 : decode cX12_openMany 57 = .ok (.goto (-53), 3) := by decide +kernel
theorem dX12_openMany_60 : decode cX12_openMany 60 = .ok (.iload_n 1, 1) := by decide +kernel
theorem dX12_openMany_61 : decode cX12_openMany 61 = .ok (.ireturn, 1) := by decide +kernel
theorem dX12_waitsFor_0 : decode cX12_waitsFor 0 = .ok (.iconst 0, 1) := by decide +kernel
theorem dX12_waitsFor_1 : decode cX12_waitsFor 1 = .ok (.istore_n 2, 1) := by decide +kernel
theorem dX12_waitsFor_2 : decode cX12_waitsFor 2 = .ok (.iconst 0, 1) := by decide +kernel
theorem dX12_waitsFor_3 : decode cX12_waitsFor 3 = .ok (.istore_n 3, 1) := by decide +kernel
theorem dX12_waitsFor_4 : decode cX12_waitsFor 4 = .ok (.iload_n 3, 1) := by decide +kernel
theorem dX12_waitsFor_5 : decode cX12_waitsFor 5 = .ok (.aload_n 0, 1) := by decide +kernel
theorem dX12_waitsFor_6 : decode cX12_waitsFor 6 = .ok (.getfield 244, 3) := by decide +kernel
theorem dX12_waitsFor_9 : decode cX12_waitsFor 9 = .ok (.if_icmp .ge 29, 3) := by decide +kernel
theorem dX12_waitsFor_12 : decode cX12_waitsFor 12 = .ok (.iload_n 2, 1) := by decide +kernel
theorem dX12_waitsFor_13 : decode cX12_waitsFor 13 = .ok (.ifCond .ne 13, 3) := by decide +kernel
theorem dX12_waitsFor_16 : decode cX12_waitsFor 16 = .ok (.aload_n 0, 1) := by decide +kernel
theorem dX12_waitsFor_17 : decode cX12_waitsFor 17 = .ok (.getfield 183, 3) := by decide +kernel
theorem dX12_waitsFor_20 : decode cX12_waitsFor 20 = .ok (.iload_n 3, 1) := by decide +kernel
theorem dX12_waitsFor_21 : decode cX12_waitsFor 21 = .ok (.iaload, 1) := by decide +kernel
theorem dX12_waitsFor_22 : decode cX12_waitsFor 22 = .ok (.iload_n 1, 1) := by decide +kernel
theorem dX12_waitsFor_23 : decode cX12_waitsFor 23 = .ok (.if_icmp .ne 7, 3) := by decide +kernel
theorem dX12_waitsFor_26 : decode cX12_waitsFor 26 = .ok (.iconst 1, 1) := by decide +kernel
theorem dX12_waitsFor_27 : decode cX12_waitsFor 27 = .ok (.goto 4, 3) := by decide +kernel
theorem dX12_waitsFor_30 : decode cX12_waitsFor 30 = .ok (.iconst 0, 1) := by decide +kernel
theorem dX12_waitsFor_31 : decode cX12_waitsFor 31 = .ok (.istore_n 2, 1) := by decide +kernel
theorem dX12_waitsFor_32 : decode cX12_waitsFor 32 = .ok (.iinc 3 1, 3) := by decide +kernel
theorem dX12_waitsFor_35 : decode cX12_waitsFor 35 = .ok (.goto (-31), 3) := by decide +kernel
theorem dX12_waitsFor_38 : decode cX12_waitsFor 38 = .ok (.iload_n 2, 1) := by decide +kernel
theorem dX12_waitsFor_39 : decode cX12_waitsFor 39 = .ok (.ireturn, 1) := by decide +kernel
theorem dX12_hasCompared_0 : decode cX12_hasCompared 0 = .ok (.aload_n 0, 1) := by decide +kernel
theorem dX12_hasCompared_1 : decode cX12_hasCompared 1 = .ok (.getfield 244, 3) := by decide +kernel
theorem dX12_hasCompared_4 : decode cX12_hasCompared 4 = .ok (.iconst 1, 1) := by decide +kernel
theorem dX12_hasCompared_5 : decode cX12_hasCompared 5 = .ok (.isub, 1) := by decide +kernel
theorem dX12_hasCompared_6 : decode cX12_hasCompared 6 = .ok (.istore_n 1, 1) := by decide +kernel
theorem dX12_hasCompared_7 : decode cX12_hasCompared 7 = .ok (.iload_n 1, 1) := by decide +kernel
theorem dX12_hasCompared_8 : decode cX12_hasCompared 8 = .ok (.ifCond .lt 22, 3) := by decide +kernel
theorem dX12_hasCompared_11 : decode cX12_hasCompared 11 = .ok (.aload_n 0, 1) := by decide +kernel
theorem dX12_hasCompared_12 : decode cX12_hasCompared 12 = .ok (.getfield 183, 3) := by decide +kernel
theorem dX12_hasCompared_15 : decode cX12_hasCompared 15 = .ok (.iload_n 1, 1) := by decide +kernel
theorem dX12_hasCompared_16 : decode cX12_hasCompared 16 = .ok (.iaload, 1) := by decide +kernel
theorem dX12_hasCompared_17 : decode cX12_hasCompared 17 = .ok (.invokestatic 247, 3) := by decide +kernel
theorem dX12_hasCompared_20 : decode cX12_hasCompared 20 = .ok (.iconst 4, 1) := by decide +kernel
theorem dX12_hasCompared_21 : decode cX12_hasCompared 21 = .ok (.if_icmp .le 9, 3) := by decide +kernel
theorem dX12_hasCompared_24 : decode cX12_hasCompared 24 = .ok (.iinc 1 (-1), 3) := by decide +kernel
theorem dX12_hasCompared_27 : decode cX12_hasCompared 27 = .ok (.goto (-20), 3) := by decide +kernel
theorem dX12_hasCompared_30 : decode cX12_hasCompared 30 = .ok (.iload_n 1, 1) := by decide +kernel
theorem dX12_hasCompared_31 : decode cX12_hasCompared 31 = .ok (.ifCond .lt 20, 3) := by decide +kernel
theorem dX12_hasCompared_34 : decode cX12_hasCompared 34 = .ok (.aload_n 0, 1) := by decide +kernel
theorem dX12_hasCompared_35 : decode cX12_hasCompared 35 = .ok (.getfield 183, 3) := by decide +kernel
theorem dX12_hasCompared_38 : decode cX12_hasCompared 38 = .ok (.iload_n 1, 1) := by decide +kernel
theorem dX12_hasCompared_39 : decode cX12_hasCompared 39 = .ok (.iaload, 1) := by decide +kernel
theorem dX12_hasCompared_40 : decode cX12_hasCompared 40 = .ok (.invokestatic 247, 3) := by decide +kernel
theorem dX12_hasCompared_43 : decode cX12_hasCompared 43 = .ok (.iconst 4, 1) := by decide +kernel
theorem dX12_hasCompared_44 : decode cX12_hasCompared 44 = .ok (.if_icmp .ne 7, 3) := by decide +kernel
theorem dX12_hasCompared_47 : decode cX12_hasCompared 47 = .ok (.iconst 1, 1) := by decide +kernel
theorem dX12_hasCompared_48 : decode cX12_hasCompared 48 = .ok (.goto 4, 3) := by decide +kernel
theorem dX12_hasCompared_51 : decode cX12_hasCompared 51 = .ok (.iconst 0, 1) := by decide +kernel
theorem dX12_hasCompared_52 : decode cX12_hasCompared 52 = .ok (.ireturn, 1) := by decide +kernel
theorem dX12_isRead_0 : decode cX12_isRead 0 = .ok (.aload_n 0, 1) := by decide +kernel
theorem dX12_isRead_1 : decode cX12_isRead 1 = .ok (.getfield 164, 3) := by decide +kernel
theorem dX12_isRead_4 : decode cX12_isRead 4 = .ok (.iload_n 1, 1) := by decide +kernel
theorem dX12_isRead_5 : decode cX12_isRead 5 = .ok (.iconst 0, 1) := by decide +kernel
theorem dX12_isRead_6 : decode cX12_isRead 6 = .ok (.iastore, 1) := by decide +kernel
theorem dX12_isRead_7 : decode cX12_isRead 7 = .ok (.aload_n 0, 1) := by decide +kernel
theorem dX12_isRead_8 : decode cX12_isRead 8 = .ok (.iconst 0, 1) := by decide +kernel
theorem dX12_isRead_9 : decode cX12_isRead 9 = .ok (.putfield 244, 3) := by decide +kernel
theorem dX12_isRead_12 : decode cX12_isRead 12 = .ok (.iconst 1, 1) := by decide +kernel
theorem dX12_isRead_13 : decode cX12_isRead 13 = .ok (.istore_n 2, 1) := by decide +kernel
theorem dX12_isRead_14 : decode cX12_isRead 14 = .ok (.iconst 1, 1) := by decide +kernel
theorem dX12_isRead_15 : decode cX12_isRead 15 = .ok (.istore_n 3, 1) := by decide +kernel
theorem dX12_isRead_16 : decode cX12_isRead 16 = .ok (.aload_n 0, 1) := by decide +kernel
theorem dX12_isRead_17 : decode cX12_isRead 17 = .ok (.invokevirtual 250, 3) := by decide +kernel
theorem dX12_isRead_20 : decode cX12_isRead 20 = .ok (.iload_n 2, 1) := by decide +kernel
theorem dX12_isRead_21 : decode cX12_isRead 21 = .ok (.ifCond .eq 187, 3) := by decide +kernel
theorem dX12_isRead_24 : decode cX12_isRead 24 = .ok (.aload_n 0, 1) := by decide +kernel
theorem dX12_isRead_25 : decode cX12_isRead 25 = .ok (.getfield 226, 3) := by decide +kernel
theorem dX12_isRead_28 : decode cX12_isRead 28 = .ok (.bipush 40, 2) := by decide +kernel
theorem dX12_isRead_30 : decode cX12_isRead 30 = .ok (.if_icmp .eq 25, 3) := by decide +kernel
theorem dX12_isRead_33 : decode cX12_isRead 33 = .ok (.aload_n 0, 1) := by decide +kernel
theorem dX12_isRead_34 : decode cX12_isRead 34 = .ok (.getfield 226, 3) := by decide +kernel
theorem dX12_isRead_37 : decode cX12_isRead 37 = .ok (.bipush 45, 2) := by decide +kernel
theorem dX12_isRead_39 : decode cX12_isRead 39 = .ok (.if_icmp .eq 16, 3) := by decide +kernel
theorem dX12_isRead_42 : decode cX12_isRead 42 = .ok (.aload_n 0, 1) := by decide +kernel
theorem dX12_isRead_43 : decode cX12_isRead 43 = .ok (.getfield 226, 3) := by decide +kernel
theorem dX12_isRead_46 : decode cX12_isRead 46 = .ok (.bipush 112, 2) := by decide +kernel
theorem dX12_isRead_48 : decode cX12_isRead 48 = .ok (.if_icmp .ne 11, 3) := by decide +kernel
theorem dX12_isRead_51 : decode cX12_isRead 51 = .ok (.iload_n 3, 1) := by decide +kernel
theorem dX12_isRead_52 : decode cX12_isRead 52 = .ok (.ifCond .eq 7, 3) := by decide +kernel
theorem dX12_isRead_55 : decode cX12_isRead 55 = .ok (.iconst 1, 1) := by decide +kernel
theorem dX12_isRead_56 : decode cX12_isRead 56 = .ok (.goto 4, 3) := by decide +kernel
theorem dX12_isRead_59 : decode cX12_isRead 59 = .ok (.iconst 0, 1) := by decide +kernel
theorem dX12_isRead_60 : decode cX12_isRead 60 = .ok (.istore 4, 2) := by decide +kernel
theorem dX12_isRead_62 : decode cX12_isRead 62 = .ok (.iload 4, 2) := by decide +kernel
theorem dX12_isRead_64 : decode cX12_isRead 64 = .ok (.ifCond .eq 67, 3) := by decide +kernel
theorem dX12_isRead_67 : decode cX12_isRead 67 = .ok (.aload_n 0, 1) := by decide +kernel
theorem dX12_isRead_68 : decode cX12_isRead 68 = .ok (.invokevirtual 253, 3) := by decide +kernel
theorem dX12_isRead_71 : decode cX12_isRead 71 = .ok (.iconst 5, 1) := by decide +kernel
theorem dX12_isRead_72 : decode cX12_isRead 72 = .ok (.if_icmp .ge 59, 3) := by decide +kernel
theorem dX12_isRead_75 : decode cX12_isRead 75 = .ok (.aload_n 0, 1) := by decide +kernel
theorem dX12_isRead_76 : decode cX12_isRead 76 = .ok (.getfield 183, 3) := by decide +kernel
theorem dX12_isRead_79 : decode cX12_isRead 79 = .ok (.aload_n 0, 1) := by decide +kernel
theorem dX12_isRead_80 : decode cX12_isRead 80 = .ok (.getfield 244, 3) := by decide +kernel
theorem dX12_isRead_83 : decode cX12_isRead 83 = .ok (.aload_n 0, 1) := by decide +kernel
theorem dX12_isRead_84 : decode cX12_isRead 84 = .ok (.getfield 226, 3) := by decide +kernel
theorem dX12_isRead_87 : decode cX12_isRead 87 = .ok (.bipush 45, 2) := by decide +kernel
theorem dX12_isRead_89 : decode cX12_isRead 89 = .ok (.if_icmp .ne 9, 3) := by decide +kernel
theorem dX12_isRead_92 : decode cX12_isRead 92 = .ok (.sipush 300, 3) := by decide +kernel
theorem dX12_isRead_95 : decode cX12_isRead 95 = .ok (.goto 7, 3) := by decide +kernel
theorem dX12_isRead_98 : decode cX12_isRead 98 = .ok (.aload_n 0, 1) := by decide +kernel
theorem dX12_isRead_99 : decode cX12_isRead 99 = .ok (.getfield 226, 3) := by decide +kernel
theorem dX12_isRead_102 : decode cX12_isRead 102 = .ok (.iastore, 1) := by decide +kernel
theorem dX12_isRead_103 : decode cX12_isRead 103 = .ok (.aload_n 0, 1) := by decide +kernel
theorem dX12_isRead_104 : decode cX12_isRead 104 = .ok (.dup, 1) := by decide +kernel
theorem dX12_isRead_105 : decode cX12_isRead 105 = .ok (.getfield 244, 3) := by decide +kernel
theorem dX12_isRead_108 : decode cX12_isRead 108 = .ok (.iconst 1, 1) := by decide +kernel
theorem dX12_isRead_109 : decode cX12_isRead 109 = .ok (.iadd, 1) := by decide +kernel
theorem dX12_isRead_110 : decode cX12_isRead 110 = .ok (.putfield 244, 3) := by decide +kernel
theorem dX12_isRead_113 : decode cX12_isRead 113 = .ok (.aload_n 0, 1) := by decide +kernel
theorem dX12_isRead_114 : decode cX12_isRead 114 = .ok (.getfield 226, 3) := by decide +kernel
theorem dX12_isRead_117 : decode cX12_isRead 117 = .ok (.bipush 45, 2) := by decide +kernel
theorem dX12_isRead_119 : decode cX12_isRead 119 = .ok (.if_icmp .eq 7, 3) := by decide +kernel
theorem dX12_isRead_122 : decode cX12_isRead 122 = .ok (.iconst 1, 1) := by decide +kernel
theorem dX12_isRead_123 : decode cX12_isRead 123 = .ok (.goto 4, 3) := by decide +kernel
theorem dX12_isRead_126 : decode cX12_isRead 126 = .ok (.iconst 0, 1) := by decide +kernel
theorem dX12_isRead_127 : decode cX12_isRead 127 = .ok (.istore_n 3, 1) := by decide +kernel
theorem dX12_isRead_128 : decode cX12_isRead 128 = .ok (.goto 77, 3) := by decide +kernel
theorem dX12_isRead_131 : decode cX12_isRead 131 = .ok (.iload 4, 2) := by decide +kernel
theorem dX12_isRead_133 : decode cX12_isRead 133 = .ok (.ifCond .ne 70, 3) := by decide +kernel
theorem dX12_isRead_136 : decode cX12_isRead 136 = .ok (.aload_n 0, 1) := by decide +kernel
theorem dX12_isRead_137 : decode cX12_isRead 137 = .ok (.getfield 226, 3) := by decide +kernel
theorem dX12_isRead_140 : decode cX12_isRead 140 = .ok (.sipush 200, 3) := by decide +kernel
theorem dX12_isRead_143 : decode cX12_isRead 143 = .ok (.if_icmp .eq 21, 3) := by decide +kernel
theorem dX12_isRead_146 : decode cX12_isRead 146 = .ok (.aload_n 0, 1) := by decide +kernel
theorem dX12_isRead_147 : decode cX12_isRead 147 = .ok (.getfield 226, 3) := by decide +kernel
theorem dX12_isRead_150 : decode cX12_isRead 150 = .ok (.bipush 100, 2) := by decide +kernel
theorem dX12_isRead_152 : decode cX12_isRead 152 = .ok (.if_icmp .lt 51, 3) := by decide +kernel
theorem dX12_isRead_155 : decode cX12_isRead 155 = .ok (.aload_n 0, 1) := by decide +kernel
theorem dX12_isRead_156 : decode cX12_isRead 156 = .ok (.getfield 226, 3) := by decide +kernel
theorem dX12_isRead_159 : decode cX12_isRead 159 = .ok (.bipush 107, 2) := by decide +kernel
theorem dX12_isRead_161 : decode cX12_isRead 161 = .ok (.if_icmp .ge 42, 3) := by decide +kernel
theorem dX12_isRead_164 : decode cX12_isRead 164 = .ok (.aload_n 0, 1) := by decide +kernel
theorem dX12_isRead_165 : decode cX12_isRead 165 = .ok (.iload_n 1, 1) := by decide +kernel
theorem dX12_isRead_166 : decode cX12_isRead 166 = .ok (.aload_n 0, 1) := by decide +kernel
theorem dX12_isRead_167 : decode cX12_isRead 167 = .ok (.getfield 226, 3) := by decide +kernel
theorem dX12_isRead_170 : decode cX12_isRead 170 = .ok (.aload_n 0, 1) := by decide +kernel
theorem dX12_isRead_171 : decode cX12_isRead 171 = .ok (.getfield 226, 3) := by decide +kernel
theorem dX12_isRead_174 : decode cX12_isRead 174 = .ok (.sipush 200, 3) := by decide +kernel
theorem dX12_isRead_177 : decode cX12_isRead 177 = .ok (.if_icmp .ne 10, 3) := by decide +kernel
theorem dX12_isRead_180 : decode cX12_isRead 180 = .ok (.aload_n 0, 1) := by decide +kernel
theorem dX12_isRead_181 : decode cX12_isRead 181 = .ok (.getfield 238, 3) := by decide +kernel
theorem dX12_isRead_184 : decode cX12_isRead 184 = .ok (.goto 4, 3) := by decide +kernel
theorem dX12_isRead_187 : decode cX12_isRead 187 = .ok (.iconst 0, 1) := by decide +kernel
theorem dX12_isRead_188 : decode cX12_isRead 188 = .ok (.invokevirtual 207, 3) := by decide +kernel
theorem dX12_isRead_191 : decode cX12_isRead 191 = .ok (.aload_n 0, 1) := by decide +kernel
theorem dX12_isRead_192 : decode cX12_isRead 192 = .ok (.iload_n 1, 1) := by decide +kernel
theorem dX12_isRead_193 : decode cX12_isRead 193 = .ok (.bipush 7, 2) := by decide +kernel
theorem dX12_isRead_195 : decode cX12_isRead 195 = .ok (.invokevirtual 257, 3) := by decide +kernel
theorem dX12_isRead_198 : decode cX12_isRead 198 = .ok (.iconst 0, 1) := by decide +kernel
theorem dX12_isRead_199 : decode cX12_isRead 199 = .ok (.istore_n 2, 1) := by decide +kernel
theorem dX12_isRead_200 : decode cX12_isRead 200 = .ok (.goto 5, 3) := by decide +kernel
theorem dX12_isRead_203 : decode cX12_isRead 203 = .ok (.iconst 0, 1) := by decide +kernel
theorem dX12_isRead_204 : decode cX12_isRead 204 = .ok (.ireturn, 1) := by decide +kernel
theorem dX12_isRead_205 : decode cX12_isRead 205 = .ok (.goto (-189), 3) := by decide +kernel
theorem dX12_isRead_208 : decode cX12_isRead 208 = .ok (.aload_n 0, 1) := by decide +kernel
theorem dX12_isRead_209 : decode cX12_isRead 209 = .ok (.getfield 226, 3) := by decide +kernel
theorem dX12_isRead_212 : decode cX12_isRead 212 = .ok (.bipush 41, 2) := by decide +kernel
theorem dX12_isRead_214 : decode cX12_isRead 214 = .ok (.if_icmp .ne 38, 3) := by decide +kernel
theorem dX12_isRead_217 : decode cX12_isRead 217 = .ok (.aload_n 0, 1) := by decide +kernel
theorem dX12_isRead_218 : decode cX12_isRead 218 = .ok (.bipush 40, 2) := by decide +kernel
theorem dX12_isRead_220 : decode cX12_isRead 220 = .ok (.invokevirtual 261, 3) := by decide +kernel
theorem dX12_isRead_223 : decode cX12_isRead 223 = .ok (.ifCond .eq 29, 3) := by decide +kernel
theorem dX12_isRead_226 : decode cX12_isRead 226 = .ok (.aload_n 0, 1) := by decide +kernel
theorem dX12_isRead_227 : decode cX12_isRead 227 = .ok (.iload_n 1, 1) := by decide +kernel
theorem dX12_isRead_228 : decode cX12_isRead 228 = .ok (.iconst 1, 1) := by decide +kernel
theorem dX12_isRead_229 : decode cX12_isRead 229 = .ok (.invokevirtual 257, 3) := by decide +kernel
theorem dX12_isRead_232 : decode cX12_isRead 232 = .ok (.aload_n 0, 1) := by decide +kernel
theorem dX12_isRead_233 : decode cX12_isRead 233 = .ok (.dup, 1) := by decide +kernel
theorem dX12_isRead_234 : decode cX12_isRead 234 = .ok (.getfield 244, 3) := by decide +kernel
theorem dX12_isRead_237 : decode cX12_isRead 237 = .ok (.iconst 1, 1) := by decide +kernel
theorem dX12_isRead_238 : decode cX12_isRead 238 = .ok (.isub, 1) := by decide +kernel
theorem dX12_isRead_239 : decode cX12_isRead 239 = .ok (.putfield 244, 3) := by decide +kernel
theorem dX12_isRead_242 : decode cX12_isRead 242 = .ok (.aload_n 0, 1) := by decide +kernel
theorem dX12_isRead_243 : decode cX12_isRead 243 = .ok (.iload_n 1, 1) := by decide +kernel
theorem dX12_isRead_244 : decode cX12_isRead 244 = .ok (.bipush 7, 2) := by decide +kernel
theorem dX12_isRead_246 : decode cX12_isRead 246 = .ok (.invokevirtual 257, 3) := by decide +kernel
theorem dX12_isRead_249 : decode cX12_isRead 249 = .ok (.goto (-233), 3) := by decide +kernel
theorem dX12_isRead_252 : decode cX12_isRead 252 = .ok (.aload_n 0, 1) := by decide +kernel
theorem dX12_isRead_253 : decode cX12_isRead 253 = .ok (.getfield 226, 3) := by decide +kernel
theorem dX12_isRead_256 : decode cX12_isRead 256 = .ok (.bipush 59, 2) := by decide +kernel
theorem dX12_isRead_258 : decode cX12_isRead 258 = .ok (.if_icmp .ne 20, 3) := by decide +kernel
theorem dX12_isRead_261 : decode cX12_isRead 261 = .ok (.aload_n 0, 1) := by decide +kernel
theorem dX12_isRead_262 : decode cX12_isRead 262 = .ok (.bipush 40, 2) := by decide +kernel
theorem dX12_isRead_264 : decode cX12_isRead 264 = .ok (.invokevirtual 261, 3) := by decide +kernel
theorem dX12_isRead_267 : decode cX12_isRead 267 = .ok (.ifCond .ne 11, 3) := by decide +kernel
theorem dX12_isRead_270 : decode cX12_isRead 270 = .ok (.aload_n 0, 1) := by decide +kernel
theorem dX12_isRead_271 : decode cX12_isRead 271 = .ok (.iload_n 1, 1) := by decide +kernel
theorem dX12_isRead_272 : decode cX12_isRead 272 = .ok (.iconst 1, 1) := by decide +kernel
theorem dX12_isRead_273 : decode cX12_isRead 273 = .ok (.invokevirtual 257, 3) := by decide +kernel
theorem dX12_isRead_276 : decode cX12_isRead 276 = .ok (.iconst 1, 1) := by decide +kernel
theorem dX12_isRead_277 : decode cX12_isRead 277 = .ok (.ireturn, 1) := by decide +kernel
theorem dX12_isRead_278 : decode cX12_isRead 278 = .ok (.aload_n 0, 1) := by decide +kernel
theorem dX12_isRead_279 : decode cX12_isRead 279 = .ok (.getfield 226, 3) := by decide +kernel
theorem dX12_isRead_282 : decode cX12_isRead 282 = .ok (.bipush 112, 2) := by decide +kernel
theorem dX12_isRead_284 : decode cX12_isRead 284 = .ok (.if_icmp .ne 7, 3) := by decide +kernel
theorem dX12_isRead_287 : decode cX12_isRead 287 = .ok (.iconst 0, 1) := by decide +kernel
theorem dX12_isRead_288 : decode cX12_isRead 288 = .ok (.goto 10, 3) := by decide +kernel
theorem dX12_isRead_291 : decode cX12_isRead 291 = .ok (.aload_n 0, 1) := by decide +kernel
theorem dX12_isRead_292 : decode cX12_isRead 292 = .ok (.getfield 226, 3) := by decide +kernel
theorem dX12_isRead_295 : decode cX12_isRead 295 = .ok (.invokestatic 247, 3) := by decide +kernel
theorem dX12_isRead_298 : decode cX12_isRead 298 = .ok (.istore 4, 2) := by decide +kernel
theorem dX12_isRead_300 : decode cX12_isRead 300 = .ok (.iload 4, 2) := by decide +kernel
theorem dX12_isRead_302 : decode cX12_isRead 302 = .ok (.ifCond .eq 16, 3) := by decide +kernel
theorem dX12_isRead_305 : decode cX12_isRead 305 = .ok (.iload 4, 2) := by decide +kernel
theorem dX12_isRead_307 : decode cX12_isRead 307 = .ok (.iconst 4, 1) := by decide +kernel
theorem dX12_isRead_308 : decode cX12_isRead 308 = .ok (.if_icmp .ne 12, 3) := by decide +kernel
theorem dX12_isRead_311 : decode cX12_isRead 311 = .ok (.aload_n 0, 1) := by decide +kernel
theorem dX12_isRead_312 : decode cX12_isRead 312 = .ok (.invokevirtual 264, 3) := by decide +kernel
theorem dX12_isRead_315 : decode cX12_isRead 315 = .ok (.ifCond .eq 5, 3) := by decide +kernel
theorem dX12_isRead_318 : decode cX12_isRead 318 = .ok (.iconst 0, 1) := by decide +kernel
theorem dX12_isRead_319 : decode cX12_isRead 319 = .ok (.ireturn, 1) := by decide +kernel
theorem dX12_isRead_320 : decode cX12_isRead 320 = .ok (.aload_n 0, 1) := by decide +kernel
theorem dX12_isRead_321 : decode cX12_isRead 321 = .ok (.iload_n 1, 1) := by decide +kernel
theorem dX12_isRead_322 : decode cX12_isRead 322 = .ok (.iload 4, 2) := by decide +kernel
theorem dX12_isRead_324 : decode cX12_isRead 324 = .ok (.invokevirtual 257, 3) := by decide +kernel
theorem dX12_isRead_327 : decode cX12_isRead 327 = .ok (.aload_n 0, 1) := by decide +kernel
theorem dX12_isRead_328 : decode cX12_isRead 328 = .ok (.getfield 183, 3) := by decide +kernel
theorem dX12_isRead_331 : decode cX12_isRead 331 = .ok (.aload_n 0, 1) := by decide +kernel
theorem dX12_isRead_332 : decode cX12_isRead 332 = .ok (.getfield 244, 3) := by decide +kernel
theorem dX12_isRead_335 : decode cX12_isRead 335 = .ok (.aload_n 0, 1) := by decide +kernel
theorem dX12_isRead_336 : decode cX12_isRead 336 = .ok (.getfield 226, 3) := by decide +kernel
theorem dX12_isRead_339 : decode cX12_isRead 339 = .ok (.iastore, 1) := by decide +kernel
theorem dX12_isRead_340 : decode cX12_isRead 340 = .ok (.aload_n 0, 1) := by decide +kernel
theorem dX12_isRead_341 : decode cX12_isRead 341 = .ok (.dup, 1) := by decide +kernel
theorem dX12_isRead_342 : decode cX12_isRead 342 = .ok (.getfield 244, 3) := by decide +kernel
theorem dX12_isRead_345 : decode cX12_isRead 345 = .ok (.iconst 1, 1) := by decide +kernel
theorem dX12_isRead_346 : decode cX12_isRead 346 = .ok (.iadd, 1) := by decide +kernel
theorem dX12_isRead_347 : decode cX12_isRead 347 = .ok (.putfield 244, 3) := by decide +kernel
theorem dX12_isRead_350 : decode cX12_isRead 350 = .ok (.iconst 1, 1) := by decide +kernel
theorem dX12_isRead_351 : decode cX12_isRead 351 = .ok (.istore_n 2, 1) := by decide +kernel
theorem dX12_isRead_352 : decode cX12_isRead 352 = .ok (.iload 4, 2) := by decide +kernel
theorem dX12_isRead_354 : decode cX12_isRead 354 = .ok (.iconst 3, 1) := by decide +kernel
theorem dX12_isRead_355 : decode cX12_isRead 355 = .ok (.if_icmp .ge 7, 3) := by decide +kernel
theorem dX12_isRead_358 : decode cX12_isRead 358 = .ok (.iconst 1, 1) := by decide +kernel
theorem dX12_isRead_359 : decode cX12_isRead 359 = .ok (.goto 4, 3) := by decide +kernel
theorem dX12_isRead_362 : decode cX12_isRead 362 = .ok (.iconst 0, 1) := by decide +kernel
theorem dX12_isRead_363 : decode cX12_isRead 363 = .ok (.istore_n 3, 1) := by decide +kernel
theorem dX12_isRead_364 : decode cX12_isRead 364 = .ok (.goto (-348), 3) := by decide +kernel
theorem dX12_isText_0 : decode cX12_isText 0 = .ok (.aload_n 0, 1) := by decide +kernel
theorem dX12_isText_1 : decode cX12_isText 1 = .ok (.iconst 0, 1) := by decide +kernel
theorem dX12_isText_2 : decode cX12_isText 2 = .ok (.putfield 220, 3) := by decide +kernel
theorem dX12_isText_5 : decode cX12_isText 5 = .ok (.iconst 1, 1) := by decide +kernel
theorem dX12_isText_6 : decode cX12_isText 6 = .ok (.istore_n 1, 1) := by decide +kernel
theorem dX12_isText_7 : decode cX12_isText 7 = .ok (.iconst 0, 1) := by decide +kernel
theorem dX12_isText_8 : decode cX12_isText 8 = .ok (.istore_n 2, 1) := by decide +kernel
theorem dX12_isText_9 : decode cX12_isText 9 = .ok (.iload_n 2, 1) := by decide +kernel
theorem dX12_isText_10 : decode cX12_isText 10 = .ok (.iconst 3, 1) := by decide +kernel
theorem dX12_isText_11 : decode cX12_isText 11 = .ok (.if_icmp .ge 49, 3) := by decide +kernel
theorem dX12_isText_14 : decode cX12_isText 14 = .ok (.iload_n 1, 1) := by decide +kernel
theorem dX12_isText_15 : decode cX12_isText 15 = .ok (.ifCond .eq 45, 3) := by decide +kernel
theorem dX12_isText_18 : decode cX12_isText 18 = .ok (.aload_n 0, 1) := by decide +kernel
theorem dX12_isText_19 : decode cX12_isText 19 = .ok (.invokevirtual 250, 3) := by decide +kernel
theorem dX12_isText_22 : decode cX12_isText 22 = .ok (.aload_n 0, 1) := by decide +kernel
theorem dX12_isText_23 : decode cX12_isText 23 = .ok (.getfield 226, 3) := by decide +kernel
theorem dX12_isText_26 : decode cX12_isText 26 = .ok (.bipush 107, 2) := by decide +kernel
theorem dX12_isText_28 : decode cX12_isText 28 = .ok (.iload_n 2, 1) := by decide +kernel
theorem dX12_isText_29 : decode cX12_isText 29 = .ok (.iadd, 1) := by decide +kernel
theorem dX12_isText_30 : decode cX12_isText 30 = .ok (.if_icmp .ne 22, 3) := by decide +kernel
theorem dX12_isText_33 : decode cX12_isText 33 = .ok (.aload_n 0, 1) := by decide +kernel
theorem dX12_isText_34 : decode cX12_isText 34 = .ok (.iconst 3, 1) := by decide +kernel
theorem dX12_isText_35 : decode cX12_isText 35 = .ok (.aload_n 0, 1) := by decide +kernel
theorem dX12_isText_36 : decode cX12_isText 36 = .ok (.getfield 211, 3) := by decide +kernel
theorem dX12_isText_39 : decode cX12_isText 39 = .ok (.imul, 1) := by decide +kernel
theorem dX12_isText_40 : decode cX12_isText 40 = .ok (.iload_n 2, 1) := by decide +kernel
theorem dX12_isText_41 : decode cX12_isText 41 = .ok (.iadd, 1) := by decide +kernel
theorem dX12_isText_42 : decode cX12_isText 42 = .ok (.invokevirtual 268, 3) := by decide +kernel
theorem dX12_isText_45 : decode cX12_isText 45 = .ok (.ifCond .eq 7, 3) := by decide +kernel
theorem dX12_isText_48 : decode cX12_isText 48 = .ok (.iconst 1, 1) := by decide +kernel
theorem dX12_isText_49 : decode cX12_isText 49 = .ok (.goto 4, 3) := by decide +kernel
theorem dX12_isText_52 : decode cX12_isText 52 = .ok (.iconst 0, 1) := by decide +kernel
theorem dX12_isText_53 : decode cX12_isText 53 = .ok (.istore_n 1, 1) := by decide +kernel
theorem dX12_isText_54 : decode cX12_isText 54 = .ok (.iinc 2 1, 3) := by decide +kernel
theorem dX12_isText_57 : decode cX12_isText 57 = .ok (.goto (-48), 3) := by decide +kernel
theorem dX12_isText_60 : decode cX12_isText 60 = .ok (.iload_n 1, 1) := by decide +kernel
theorem dX12_isText_61 : decode cX12_isText 61 = .ok (.ifCond .eq 20, 3) := by decide +kernel
theorem dX12_isText_64 : decode cX12_isText 64 = .ok (.aload_n 0, 1) := by decide +kernel
theorem dX12_isText_65 : decode cX12_isText 65 = .ok (.invokevirtual 250, 3) := by decide +kernel
theorem dX12_isText_68 : decode cX12_isText 68 = .ok (.aload_n 0, 1) := by decide +kernel
theorem dX12_isText_69 : decode cX12_isText 69 = .ok (.getfield 226, 3) := by decide +kernel
theorem dX12_isText_72 : decode cX12_isText 72 = .ok (.ifCond .ne 7, 3) := by decide +kernel
theorem dX12_isText_75 : decode cX12_isText 75 = .ok (.iconst 1, 1) := by decide +kernel
theorem dX12_isText_76 : decode cX12_isText 76 = .ok (.goto 4, 3) := by decide +kernel
theorem dX12_isText_79 : decode cX12_isText 79 = .ok (.iconst 0, 1) := by decide +kernel
theorem dX12_isText_80 : decode cX12_isText 80 = .ok (.istore_n 1, 1) := by decide +kernel
theorem dX12_isText_81 : decode cX12_isText 81 = .ok (.iload_n 1, 1) := by decide +kernel
theorem dX12_isText_82 : decode cX12_isText 82 = .ok (.ireturn, 1) := by decide +kernel
theorem dX12_feed_0 : decode cX12_feed 0 = .ok (.iload_n 1, 1) := by decide +kernel
theorem dX12_feed_1 : decode cX12_feed 1 = .ok (.i2l, 1) := by decide +kernel
theorem dX12_feed_2 : decode cX12_feed 2 = .ok (.lconst 1, 1) := by decide +kernel
theorem dX12_feed_3 : decode cX12_feed 3 = .ok (.ldc2_w 271, 3) := by decide +kernel
theorem dX12_feed_6 : decode cX12_feed 6 = .ok (.invokestatic 15, 3) := by decide +kernel
theorem dX12_feed_9 : decode cX12_feed 9 = .ok (.ifCond .ne 6, 3) := by decide +kernel
theorem dX12_feed_12 : decode cX12_feed 12 = .ok (.bipush (-2), 2) := by decide +kernel
theorem dX12_feed_14 : decode cX12_feed 14 = .ok (.ireturn, 1) := by decide +kernel
theorem dX12_feed_15 : decode cX12_feed 15 = .ok (.aload_n 0, 1) := by decide +kernel
theorem dX12_feed_16 : decode cX12_feed 16 = .ok (.getfield 214, 3) := by decide +kernel
theorem dX12_feed_19 : decode cX12_feed 19 = .ok (.iload_n 1, 1) := by decide +kernel
theorem dX12_feed_20 : decode cX12_feed 20 = .ok (.iadd, 1) := by decide +kernel
theorem dX12_feed_21 : decode cX12_feed 21 = .ok (.sipush 160, 3) := by decide +kernel
theorem dX12_feed_24 : decode cX12_feed 24 = .ok (.if_icmp .le 6, 3) := by decide +kernel
theorem dX12_feed_27 : decode cX12_feed 27 = .ok (.bipush (-4), 2) := by decide +kernel
theorem dX12_feed_29 : decode cX12_feed 29 = .ok (.ireturn, 1) := by decide +kernel
theorem dX12_feed_30 : decode cX12_feed 30 = .ok (.iconst 0, 1) := by decide +kernel
theorem dX12_feed_31 : decode cX12_feed 31 = .ok (.istore 4, 2) := by decide +kernel
theorem dX12_feed_33 : decode cX12_feed 33 = .ok (.iload 4, 2) := by decide +kernel
theorem dX12_feed_35 : decode cX12_feed 35 = .ok (.iload_n 1, 1) := by decide +kernel
theorem dX12_feed_36 : decode cX12_feed 36 = .ok (.if_icmp .ge 37, 3) := by decide +kernel
theorem dX12_feed_39 : decode cX12_feed 39 = .ok (.aload_n 0, 1) := by decide +kernel
theorem dX12_feed_40 : decode cX12_feed 40 = .ok (.getfield 160, 3) := by decide +kernel
theorem dX12_feed_43 : decode cX12_feed 43 = .ok (.aload_n 0, 1) := by decide +kernel
theorem dX12_feed_44 : decode cX12_feed 44 = .ok (.getfield 214, 3) := by decide +kernel
theorem dX12_feed_47 : decode cX12_feed 47 = .ok (.lload_n 2, 1) := by decide +kernel
theorem dX12_feed_48 : decode cX12_feed 48 = .ok (.bipush 8, 2) := by decide +kernel
theorem dX12_feed_50 : decode cX12_feed 50 = .ok (.iload 4, 2) := by decide +kernel
theorem dX12_feed_52 : decode cX12_feed 52 = .ok (.imul, 1) := by decide +kernel
theorem dX12_feed_53 : decode cX12_feed 53 = .ok (.lshr, 1) := by decide +kernel
theorem dX12_feed_54 : decode cX12_feed 54 = .ok (.l2i, 1) := by decide +kernel
theorem dX12_feed_55 : decode cX12_feed 55 = .ok (.i2b, 1) := by decide +kernel
theorem dX12_feed_56 : decode cX12_feed 56 = .ok (.bastore, 1) := by decide +kernel
theorem dX12_feed_57 : decode cX12_feed 57 = .ok (.aload_n 0, 1) := by decide +kernel
theorem dX12_feed_58 : decode cX12_feed 58 = .ok (.dup, 1) := by decide +kernel
theorem dX12_feed_59 : decode cX12_feed 59 = .ok (.getfield 214, 3) := by decide +kernel
theorem dX12_feed_62 : decode cX12_feed 62 = .ok (.iconst 1, 1) := by decide +kernel
theorem dX12_feed_63 : decode cX12_feed 63 = .ok (.iadd, 1) := by decide +kernel
theorem dX12_feed_64 : decode cX12_feed 64 = .ok (.putfield 214, 3) := by decide +kernel
theorem dX12_feed_67 : decode cX12_feed 67 = .ok (.iinc 4 1, 3) := by decide +kernel
theorem dX12_feed_70 : decode cX12_feed 70 = .ok (.goto (-37), 3) := by decide +kernel
theorem dX12_feed_73 : decode cX12_feed 73 = .ok (.aload_n 0, 1) := by decide +kernel
theorem dX12_feed_74 : decode cX12_feed 74 = .ok (.getfield 214, 3) := by decide +kernel
theorem dX12_feed_77 : decode cX12_feed 77 = .ok (.ireturn, 1) := by decide +kernel
theorem dX12_text_0 : decode cX12_text 0 = .ok (.aload_n 0, 1) := by decide +kernel
theorem dX12_text_1 : decode cX12_text 1 = .ok (.getfield 211, 3) := by decide +kernel
theorem dX12_text_4 : decode cX12_text 4 = .ok (.bipush 6, 2) := by decide +kernel
theorem dX12_text_6 : decode cX12_text 6 = .ok (.if_icmp .ne 6, 3) := by decide +kernel
theorem dX12_text_9 : decode cX12_text 9 = .ok (.bipush (-4), 2) := by decide +kernel
theorem dX12_text_11 : decode cX12_text 11 = .ok (.ireturn, 1) := by decide +kernel
theorem dX12_text_12 : decode cX12_text 12 = .ok (.aload_n 0, 1) := by decide +kernel
theorem dX12_text_13 : decode cX12_text 13 = .ok (.invokevirtual 273, 3) := by decide +kernel
theorem dX12_text_16 : decode cX12_text 16 = .ok (.istore_n 1, 1) := by decide +kernel
theorem dX12_text_17 : decode cX12_text 17 = .ok (.aload_n 0, 1) := by decide +kernel
theorem dX12_text_18 : decode cX12_text 18 = .ok (.iconst 0, 1) := by decide +kernel
theorem dX12_text_19 : decode cX12_text 19 = .ok (.putfield 214, 3) := by decide +kernel
theorem dX12_text_22 : decode cX12_text 22 = .ok (.iload_n 1, 1) := by decide +kernel
theorem dX12_text_23 : decode cX12_text 23 = .ok (.ifCond .ne 11, 3) := by decide +kernel
theorem dX12_text_26 : decode cX12_text 26 = .ok (.bipush (-100), 2) := by decide +kernel
theorem dX12_text_28 : decode cX12_text 28 = .ok (.aload_n 0, 1) := by decide +kernel
theorem dX12_text_29 : decode cX12_text 29 = .ok (.getfield 223, 3) := by decide +kernel
theorem dX12_text_32 : decode cX12_text 32 = .ok (.isub, 1) := by decide +kernel
theorem dX12_text_33 : decode cX12_text 33 = .ok (.ireturn, 1) := by decide +kernel
theorem dX12_text_34 : decode cX12_text 34 = .ok (.aload_n 0, 1) := by decide +kernel
theorem dX12_text_35 : decode cX12_text 35 = .ok (.dup, 1) := by decide +kernel
theorem dX12_text_36 : decode cX12_text 36 = .ok (.getfield 211, 3) := by decide +kernel
theorem dX12_text_39 : decode cX12_text 39 = .ok (.iconst 1, 1) := by decide +kernel
theorem dX12_text_40 : decode cX12_text 40 = .ok (.iadd, 1) := by decide +kernel
theorem dX12_text_41 : decode cX12_text 41 = .ok (.putfield 211, 3) := by decide +kernel
theorem dX12_text_44 : decode cX12_text 44 = .ok (.aload_n 0, 1) := by decide +kernel
theorem dX12_text_45 : decode cX12_text 45 = .ok (.getfield 211, 3) := by decide +kernel
theorem dX12_text_48 : decode cX12_text 48 = .ok (.iconst 1, 1) := by decide +kernel
theorem dX12_text_49 : decode cX12_text 49 = .ok (.isub, 1) := by decide +kernel
theorem dX12_text_50 : decode cX12_text 50 = .ok (.ireturn, 1) := by decide +kernel
theorem dX12_force_0 : decode cX12_force 0 = .ok (.iload_n 1, 1) := by decide +kernel
theorem dX12_force_1 : decode cX12_force 1 = .ok (.ifCond .lt 11, 3) := by decide +kernel
theorem dX12_force_4 : decode cX12_force 4 = .ok (.iload_n 1, 1) := by decide +kernel
theorem dX12_force_5 : decode cX12_force 5 = .ok (.aload_n 0, 1) := by decide +kernel
theorem dX12_force_6 : decode cX12_force 6 = .ok (.getfield 211, 3) := by decide +kernel
theorem dX12_force_9 : decode cX12_force 9 = .ok (.if_icmp .lt 6, 3) := by decide +kernel
theorem dX12_force_12 : decode cX12_force 12 = .ok (.bipush (-2), 2) := by decide +kernel
theorem dX12_force_14 : decode cX12_force 14 = .ok (.ireturn, 1) := by decide +kernel
theorem dX12_force_15 : decode cX12_force 15 = .ok (.aload_n 0, 1) := by decide +kernel
theorem dX12_force_16 : decode cX12_force 16 = .ok (.getfield 75, 3) := by decide +kernel
theorem dX12_force_19 : decode cX12_force 19 = .ok (.istore_n 2, 1) := by decide +kernel
theorem dX12_force_20 : decode cX12_force 20 = .ok (.aload_n 0, 1) := by decide +kernel
theorem dX12_force_21 : decode cX12_force 21 = .ok (.iload_n 1, 1) := by decide +kernel
theorem dX12_force_22 : decode cX12_force 22 = .ok (.putfield 75, 3) := by decide +kernel
theorem dX12_force_25 : decode cX12_force 25 = .ok (.iload_n 2, 1) := by decide +kernel
theorem dX12_force_26 : decode cX12_force 26 = .ok (.ireturn, 1) := by decide +kernel
theorem dX12_joined_0 : decode cX12_joined 0 = .ok (.iload_n 0, 1) := by decide +kernel
theorem dX12_joined_1 : decode cX12_joined 1 = .ok (.lookupswitch 107 #[(42, 67), (43, 59), (45, 63), (60, 71), (61, 82), (110, 93)], 59) := by decide +kernel
theorem dX12_joined_60 : decode cX12_joined 60 = .ok (.iload_n 1, 1) := by decide +kernel
theorem dX12_joined_61 : decode cX12_joined 61 = .ok (.iload_n 2, 1) := by decide +kernel
theorem dX12_joined_62 : decode cX12_joined 62 = .ok (.iadd, 1) := by decide +kernel
theorem dX12_joined_63 : decode cX12_joined 63 = .ok (.ireturn, 1) := by decide +kernel
theorem dX12_joined_64 : decode cX12_joined 64 = .ok (.iload_n 1, 1) := by decide +kernel
theorem dX12_joined_65 : decode cX12_joined 65 = .ok (.iload_n 2, 1) := by decide +kernel
theorem dX12_joined_66 : decode cX12_joined 66 = .ok (.isub, 1) := by decide +kernel
theorem dX12_joined_67 : decode cX12_joined 67 = .ok (.ireturn, 1) := by decide +kernel
theorem dX12_joined_68 : decode cX12_joined 68 = .ok (.iload_n 1, 1) := by decide +kernel
theorem dX12_joined_69 : decode cX12_joined 69 = .ok (.iload_n 2, 1) := by decide +kernel
theorem dX12_joined_70 : decode cX12_joined 70 = .ok (.imul, 1) := by decide +kernel
theorem dX12_joined_71 : decode cX12_joined 71 = .ok (.ireturn, 1) := by decide +kernel
theorem dX12_joined_72 : decode cX12_joined 72 = .ok (.iload_n 1, 1) := by decide +kernel
theorem dX12_joined_73 : decode cX12_joined 73 = .ok (.iload_n 2, 1) := by decide +kernel
theorem dX12_joined_74 : decode cX12_joined 74 = .ok (.if_icmp .ge 7, 3) := by decide +kernel
theorem dX12_joined_77 : decode cX12_joined 77 = .ok (.iconst 1, 1) := by decide +kernel
theorem dX12_joined_78 : decode cX12_joined 78 = .ok (.goto 4, 3) := by decide +kernel
theorem dX12_joined_81 : decode cX12_joined 81 = .ok (.iconst 0, 1) := by decide +kernel
theorem dX12_joined_82 : decode cX12_joined 82 = .ok (.ireturn, 1) := by decide +kernel
theorem dX12_joined_83 : decode cX12_joined 83 = .ok (.iload_n 1, 1) := by decide +kernel
theorem dX12_joined_84 : decode cX12_joined 84 = .ok (.iload_n 2, 1) := by decide +kernel
theorem dX12_joined_85 : decode cX12_joined 85 = .ok (.if_icmp .ne 7, 3) := by decide +kernel
theorem dX12_joined_88 : decode cX12_joined 88 = .ok (.iconst 1, 1) := by decide +kernel
theorem dX12_joined_89 : decode cX12_joined 89 = .ok (.goto 4, 3) := by decide +kernel
theorem dX12_joined_92 : decode cX12_joined 92 = .ok (.iconst 0, 1) := by decide +kernel
theorem dX12_joined_93 : decode cX12_joined 93 = .ok (.ireturn, 1) := by decide +kernel
theorem dX12_joined_94 : decode cX12_joined 94 = .ok (.iload_n 1, 1) := by decide +kernel
theorem dX12_joined_95 : decode cX12_joined 95 = .ok (.ifCond .ne 7, 3) := by decide +kernel
theorem dX12_joined_98 : decode cX12_joined 98 = .ok (.iload_n 2, 1) := by decide +kernel
theorem dX12_joined_99 : decode cX12_joined 99 = .ok (.ifCond .eq 7, 3) := by decide +kernel
theorem dX12_joined_102 : decode cX12_joined 102 = .ok (.iconst 1, 1) := by decide +kernel
theorem dX12_joined_103 : decode cX12_joined 103 = .ok (.goto 4, 3) := by decide +kernel
theorem dX12_joined_106 : decode cX12_joined 106 = .ok (.iconst 0, 1) := by decide +kernel
theorem dX12_joined_107 : decode cX12_joined 107 = .ok (.ireturn, 1) := by decide +kernel
theorem dX12_joined_108 : decode cX12_joined 108 = .ok (.iload_n 1, 1) := by decide +kernel
theorem dX12_joined_109 : decode cX12_joined 109 = .ok (.ifCond .eq 11, 3) := by decide +kernel
theorem dX12_joined_112 : decode cX12_joined 112 = .ok (.iload_n 2, 1) := by decide +kernel
theorem dX12_joined_113 : decode cX12_joined 113 = .ok (.ifCond .eq 7, 3) := by decide +kernel
theorem dX12_joined_116 : decode cX12_joined 116 = .ok (.iconst 1, 1) := by decide +kernel
theorem dX12_joined_117 : decode cX12_joined 117 = .ok (.goto 4, 3) := by decide +kernel
theorem dX12_joined_120 : decode cX12_joined 120 = .ok (.iconst 0, 1) := by decide +kernel
theorem dX12_joined_121 : decode cX12_joined 121 = .ok (.ireturn, 1) := by decide +kernel
theorem dX12_value_0 : decode cX12_value 0 = .ok (.iconst 3, 1) := by decide +kernel
theorem dX12_value_1 : decode cX12_value 1 = .ok (.iload_n 1, 1) := by decide +kernel
theorem dX12_value_2 : decode cX12_value 2 = .ok (.imul, 1) := by decide +kernel
theorem dX12_value_3 : decode cX12_value 3 = .ok (.iload_n 2, 1) := by decide +kernel
theorem dX12_value_4 : decode cX12_value 4 = .ok (.iadd, 1) := by decide +kernel
theorem dX12_value_5 : decode cX12_value 5 = .ok (.istore 10, 2) := by decide +kernel
theorem dX12_value_7 : decode cX12_value 7 = .ok (.iconst 0, 1) := by decide +kernel
theorem dX12_value_8 : decode cX12_value 8 = .ok (.istore 11, 2) := by decide +kernel
theorem dX12_value_10 : decode cX12_value 10 = .ok (.sipush 160, 3) := by decide +kernel
theorem dX12_value_13 : decode cX12_value 13 = .ok (.iload 10, 2) := by decide +kernel
theorem dX12_value_15 : decode cX12_value 15 = .ok (.imul, 1) := by decide +kernel
theorem dX12_value_16 : decode cX12_value 16 = .ok (.istore 12, 2) := by decide +kernel
theorem dX12_value_18 : decode cX12_value 18 = .ok (.iload 12, 2) := by decide +kernel
theorem dX12_value_20 : decode cX12_value 20 = .ok (.sipush 160, 3) := by decide +kernel
theorem dX12_value_23 : decode cX12_value 23 = .ok (.iload 10, 2) := by decide +kernel
theorem dX12_value_25 : decode cX12_value 25 = .ok (.imul, 1) := by decide +kernel
theorem dX12_value_26 : decode cX12_value 26 = .ok (.aload_n 0, 1) := by decide +kernel
theorem dX12_value_27 : decode cX12_value 27 = .ok (.getfield 164, 3) := by decide +kernel
theorem dX12_value_30 : decode cX12_value 30 = .ok (.iload 10, 2) := by decide +kernel
theorem dX12_value_32 : decode cX12_value 32 = .ok (.iaload, 1) := by decide +kernel
theorem dX12_value_33 : decode cX12_value 33 = .ok (.iadd, 1) := by decide +kernel
theorem dX12_value_34 : decode cX12_value 34 = .ok (.if_icmp .ge 245, 3) := by decide +kernel
theorem dX12_value_37 : decode cX12_value 37 = .ok (.aload_n 0, 1) := by decide +kernel
theorem dX12_value_38 : decode cX12_value 38 = .ok (.getfield 167, 3) := by decide +kernel
theorem dX12_value_41 : decode cX12_value 41 = .ok (.iload 12, 2) := by decide +kernel
theorem dX12_value_43 : decode cX12_value 43 = .ok (.iaload, 1) := by decide +kernel
theorem dX12_value_44 : decode cX12_value 44 = .ok (.istore 13, 2) := by decide +kernel
theorem dX12_value_46 : decode cX12_value 46 = .ok (.iload 13, 2) := by decide +kernel
theorem dX12_value_48 : decode cX12_value 48 = .ok (.sipush 200, 3) := by decide +kernel
theorem dX12_value_51 : decode cX12_value 51 = .ok (.if_icmp .ne 23, 3) := by decide +kernel
theorem dX12_value_54 : decode cX12_value 54 = .ok (.aload_n 0, 1) := by decide +kernel
theorem dX12_value_55 : decode cX12_value 55 = .ok (.getfield 186, 3) := by decide +kernel
theorem dX12_value_58 : decode cX12_value 58 = .ok (.iload 11, 2) := by decide +kernel
theorem dX12_value_60 : decode cX12_value 60 = .ok (.aload_n 0, 1) := by decide +kernel
theorem dX12_value_61 : decode cX12_value 61 = .ok (.getfield 170, 3) := by decide +kernel
theorem dX12_value_64 : decode cX12_value 64 = .ok (.iload 12, 2) := by decide +kernel
theorem dX12_value_66 : decode cX12_value 66 = .ok (.iaload, 1) := by decide +kernel
theorem dX12_value_67 : decode cX12_value 67 = .ok (.iastore, 1) := by decide +kernel
theorem dX12_value_68 : decode cX12_value 68 = .ok (.iinc 11 1, 3) := by decide +kernel
theorem dX12_value_71 : decode cX12_value 71 = .ok (.goto 202, 3) := by decide +kernel
theorem dX12_value_74 : decode cX12_value 74 = .ok (.iload 13, 2) := by decide +kernel
theorem dX12_value_76 : decode cX12_value 76 = .ok (.bipush 100, 2) := by decide +kernel
theorem dX12_value_78 : decode cX12_value 78 = .ok (.if_icmp .lt 96, 3) := by decide +kernel
theorem dX12_value_81 : decode cX12_value 81 = .ok (.iload 13, 2) := by decide +kernel
theorem dX12_value_83 : decode cX12_value 83 = .ok (.bipush 107, 2) := by decide +kernel
theorem dX12_value_85 : decode cX12_value 85 = .ok (.if_icmp .ge 89, 3) := by decide +kernel
theorem dX12_value_88 : decode cX12_value 88 = .ok (.aload_n 0, 1) := by decide +kernel
theorem dX12_value_89 : decode cX12_value 89 = .ok (.getfield 186, 3) := by decide +kernel
theorem dX12_value_92 : decode cX12_value 92 = .ok (.iload 11, 2) := by decide +kernel
theorem dX12_value_94 : decode cX12_value 94 = .ok (.iload 13, 2) := by decide +kernel
theorem dX12_value_96 : decode cX12_value 96 = .ok (.bipush 100, 2) := by decide +kernel
theorem dX12_value_98 : decode cX12_value 98 = .ok (.if_icmp .ne 7, 3) := by decide +kernel
theorem dX12_value_101 : decode cX12_value 101 = .ok (.iload_n 3, 1) := by decide +kernel
theorem dX12_value_102 : decode cX12_value 102 = .ok (.goto 65, 3) := by decide +kernel
theorem dX12_value_105 : decode cX12_value 105 = .ok (.iload 13, 2) := by decide +kernel
theorem dX12_value_107 : decode cX12_value 107 = .ok (.bipush 101, 2) := by decide +kernel
theorem dX12_value_109 : decode cX12_value 109 = .ok (.if_icmp .ne 8, 3) := by decide +kernel
theorem dX12_value_112 : decode cX12_value 112 = .ok (.iload 4, 2) := by decide +kernel
theorem dX12_value_114 : decode cX12_value 114 = .ok (.goto 53, 3) := by decide +kernel
theorem dX12_value_117 : decode cX12_value 117 = .ok (.iload 13, 2) := by decide +kernel
theorem dX12_value_119 : decode cX12_value 119 = .ok (.bipush 102, 2) := by decide +kernel
theorem dX12_value_121 : decode cX12_value 121 = .ok (.if_icmp .ne 8, 3) := by decide +kernel
theorem dX12_value_124 : decode cX12_value 124 = .ok (.iload 5, 2) := by decide +kernel
theorem dX12_value_126 : decode cX12_value 126 = .ok (.goto 41, 3) := by decide +kernel
theorem dX12_value_129 : decode cX12_value 129 = .ok (.iload 13, 2) := by decide +kernel
theorem dX12_value_131 : decode cX12_value 131 = .ok (.bipush 103, 2) := by decide +kernel
theorem dX12_value_133 : decode cX12_value 133 = .ok (.if_icmp .ne 8, 3) := by decide +kernel
theorem dX12_value_136 : decode cX12_value 136 = .ok (.iload 6, 2) := by decide +kernel
theorem dX12_value_138 : decode cX12_value 138 = .ok (.goto 29, 3) := by decide +kernel
theorem dX12_value_141 : decode cX12_value 141 = .ok (.iload 13, 2) := by decide +kernel
theorem dX12_value_143 : decode cX12_value 143 = .ok (.bipush 104, 2) := by decide +kernel
theorem dX12_value_145 : decode cX12_value 145 = .ok (.if_icmp .ne 8, 3) := by decide +kernel
theorem dX12_value_148 : decode cX12_value 148 = .ok (.iload 7, 2) := by decide +kernel
theorem dX12_value_150 : decode cX12_value 150 = .ok (.goto 17, 3) := by decide +kernel
theorem dX12_value_153 : decode cX12_value 153 = .ok (.iload 13, 2) := by decide +kernel
theorem dX12_value_155 : decode cX12_value 155 = .ok (.bipush 105, 2) := by decide +kernel
theorem dX12_value_157 : decode cX12_value 157 = .ok (.if_icmp .ne 8, 3) := by decide +kernel
theorem dX12_value_160 : decode cX12_value 160 = .ok (.iload 8, 2) := by decide +kernel
theorem dX12_value_162 : decode cX12_value 162 = .ok (.goto 5, 3) := by decide +kernel
theorem dX12_value_165 : decode cX12_value 165 = .ok (.iload 9, 2) := by decide +kernel
theorem dX12_value_167 : decode cX12_value 167 = .ok (.iastore, 1) := by decide +kernel
theorem dX12_value_168 : decode cX12_value 168 = .ok (.iinc 11 1, 3) := by decide +kernel
theorem dX12_value_171 : decode cX12_value 171 = .ok (.goto 102, 3) := by decide +kernel
theorem dX12_value_174 : decode cX12_value 174 = .ok (.iload 13, 2) := by decide +kernel
theorem dX12_value_176 : decode cX12_value 176 = .ok (.sipush 300, 3) := by decide +kernel
theorem dX12_value_179 : decode cX12_value 179 = .ok (.if_icmp .ne 25, 3) := by decide +kernel
theorem dX12_value_182 : decode cX12_value 182 = .ok (.aload_n 0, 1) := by decide +kernel
theorem dX12_value_183 : decode cX12_value 183 = .ok (.getfield 186, 3) := by decide +kernel
theorem dX12_value_186 : decode cX12_value 186 = .ok (.iload 11, 2) := by decide +kernel
theorem dX12_value_188 : decode cX12_value 188 = .ok (.iconst 1, 1) := by decide +kernel
theorem dX12_value_189 : decode cX12_value 189 = .ok (.isub, 1) := by decide +kernel
theorem dX12_value_190 : decode cX12_value 190 = .ok (.aload_n 0, 1) := by decide +kernel
theorem dX12_value_191 : decode cX12_value 191 = .ok (.getfield 186, 3) := by decide +kernel
theorem dX12_value_194 : decode cX12_value 194 = .ok (.iload 11, 2) := by decide +kernel
theorem dX12_value_196 : decode cX12_value 196 = .ok (.iconst 1, 1) := by decide +kernel
theorem dX12_value_197 : decode cX12_value 197 = .ok (.isub, 1) := by decide +kernel
theorem dX12_value_198 : decode cX12_value 198 = .ok (.iaload, 1) := by decide +kernel
theorem dX12_value_199 : decode cX12_value 199 = .ok (.ineg, 1) := by decide +kernel
theorem dX12_value_200 : decode cX12_value 200 = .ok (.iastore, 1) := by decide +kernel
theorem dX12_value_201 : decode cX12_value 201 = .ok (.goto 72, 3) := by decide +kernel
theorem dX12_value_204 : decode cX12_value 204 = .ok (.iload 13, 2) := by decide +kernel
theorem dX12_value_206 : decode cX12_value 206 = .ok (.bipush 112, 2) := by decide +kernel
theorem dX12_value_208 : decode cX12_value 208 = .ok (.if_icmp .ne 32, 3) := by decide +kernel
theorem dX12_value_211 : decode cX12_value 211 = .ok (.aload_n 0, 1) := by decide +kernel
theorem dX12_value_212 : decode cX12_value 212 = .ok (.getfield 186, 3) := by decide +kernel
theorem dX12_value_215 : decode cX12_value 215 = .ok (.iload 11, 2) := by decide +kernel
theorem dX12_value_217 : decode cX12_value 217 = .ok (.iconst 1, 1) := by decide +kernel
theorem dX12_value_218 : decode cX12_value 218 = .ok (.isub, 1) := by decide +kernel
theorem dX12_value_219 : decode cX12_value 219 = .ok (.aload_n 0, 1) := by decide +kernel
theorem dX12_value_220 : decode cX12_value 220 = .ok (.getfield 186, 3) := by decide +kernel
theorem dX12_value_223 : decode cX12_value 223 = .ok (.iload 11, 2) := by decide +kernel
theorem dX12_value_225 : decode cX12_value 225 = .ok (.iconst 1, 1) := by decide +kernel
theorem dX12_value_226 : decode cX12_value 226 = .ok (.isub, 1) := by decide +kernel
theorem dX12_value_227 : decode cX12_value 227 = .ok (.iaload, 1) := by decide +kernel
theorem dX12_value_228 : decode cX12_value 228 = .ok (.ifCond .ne 7, 3) := by decide +kernel
theorem dX12_value_231 : decode cX12_value 231 = .ok (.iconst 1, 1) := by decide +kernel
theorem dX12_value_232 : decode cX12_value 232 = .ok (.goto 4, 3) := by decide +kernel
theorem dX12_value_235 : decode cX12_value 235 = .ok (.iconst 0, 1) := by decide +kernel
theorem dX12_value_236 : decode cX12_value 236 = .ok (.iastore, 1) := by decide +kernel
theorem dX12_value_237 : decode cX12_value 237 = .ok (.goto 36, 3) := by decide +kernel
theorem dX12_value_240 : decode cX12_value 240 = .ok (.iinc 11 (-1), 3) := by decide +kernel
theorem dX12_value_243 : decode cX12_value 243 = .ok (.aload_n 0, 1) := by decide +kernel
theorem dX12_value_244 : decode cX12_value 244 = .ok (.getfield 186, 3) := by decide +kernel
theorem dX12_value_247 : decode cX12_value 247 = .ok (.iload 11, 2) := by decide +kernel
theorem dX12_value_249 : decode cX12_value 249 = .ok (.iconst 1, 1) := by decide +kernel
theorem dX12_value_250 : decode cX12_value 250 = .ok (.isub, 1) := by decide +kernel
theorem dX12_value_251 : decode cX12_value 251 = .ok (.iload 13, 2) := by decide +kernel
theorem dX12_value_253 : decode cX12_value 253 = .ok (.aload_n 0, 1) := by decide +kernel
theorem dX12_value_254 : decode cX12_value 254 = .ok (.getfield 186, 3) := by decide +kernel
theorem dX12_value_257 : decode cX12_value 257 = .ok (.iload 11, 2) := by decide +kernel
theorem dX12_value_259 : decode cX12_value 259 = .ok (.iconst 1, 1) := by decide +kernel
theorem dX12_value_260 : decode cX12_value 260 = .ok (.isub, 1) := by decide +kernel
theorem dX12_value_261 : decode cX12_value 261 = .ok (.iaload, 1) := by decide +kernel
theorem dX12_value_262 : decode cX12_value 262 = .ok (.aload_n 0, 1) := by decide +kernel
theorem dX12_value_263 : decode cX12_value 263 = .ok (.getfield 186, 3) := by decide +kernel
theorem dX12_value_266 : decode cX12_value 266 = .ok (.iload 11, 2) := by decide +kernel
theorem dX12_value_268 : decode cX12_value 268 = .ok (.iaload, 1) := by decide +kernel
theorem dX12_value_269 : decode cX12_value 269 = .ok (.invokestatic 276, 3) := by decide +kernel
theorem dX12_value_272 : decode cX12_value 272 = .ok (.iastore, 1) := by decide +kernel
theorem dX12_value_273 : decode cX12_value 273 = .ok (.iinc 12 1, 3) := by decide +kernel
theorem dX12_value_276 : decode cX12_value 276 = .ok (.goto (-258), 3) := by decide +kernel
theorem dX12_value_279 : decode cX12_value 279 = .ok (.aload_n 0, 1) := by decide +kernel
theorem dX12_value_280 : decode cX12_value 280 = .ok (.getfield 186, 3) := by decide +kernel
theorem dX12_value_283 : decode cX12_value 283 = .ok (.iconst 0, 1) := by decide +kernel
theorem dX12_value_284 : decode cX12_value 284 = .ok (.iaload, 1) := by decide +kernel
theorem dX12_value_285 : decode cX12_value 285 = .ok (.ireturn, 1) := by decide +kernel
theorem dX12_valueOf_0 : decode cX12_valueOf 0 = .ok (.aload_n 0, 1) := by decide +kernel
theorem dX12_valueOf_1 : decode cX12_valueOf 1 = .ok (.aload_n 0, 1) := by decide +kernel
theorem dX12_valueOf_2 : decode cX12_valueOf 2 = .ok (.getfield 100, 3) := by decide +kernel
theorem dX12_valueOf_5 : decode cX12_valueOf 5 = .ok (.iload_n 1, 1) := by decide +kernel
theorem dX12_valueOf_6 : decode cX12_valueOf 6 = .ok (.iaload, 1) := by decide +kernel
theorem dX12_valueOf_7 : decode cX12_valueOf 7 = .ok (.iload_n 2, 1) := by decide +kernel
theorem dX12_valueOf_8 : decode cX12_valueOf 8 = .ok (.aload_n 0, 1) := by decide +kernel
theorem dX12_valueOf_9 : decode cX12_valueOf 9 = .ok (.getfield 82, 3) := by decide +kernel
theorem dX12_valueOf_12 : decode cX12_valueOf 12 = .ok (.iload_n 1, 1) := by decide +kernel
theorem dX12_valueOf_13 : decode cX12_valueOf 13 = .ok (.iaload, 1) := by decide +kernel
theorem dX12_valueOf_14 : decode cX12_valueOf 14 = .ok (.aload_n 0, 1) := by decide +kernel
theorem dX12_valueOf_15 : decode cX12_valueOf 15 = .ok (.getfield 94, 3) := by decide +kernel
theorem dX12_valueOf_18 : decode cX12_valueOf 18 = .ok (.iload_n 1, 1) := by decide +kernel
theorem dX12_valueOf_19 : decode cX12_valueOf 19 = .ok (.iaload, 1) := by decide +kernel
theorem dX12_valueOf_20 : decode cX12_valueOf 20 = .ok (.aload_n 0, 1) := by decide +kernel
theorem dX12_valueOf_21 : decode cX12_valueOf 21 = .ok (.getfield 91, 3) := by decide +kernel
theorem dX12_valueOf_24 : decode cX12_valueOf 24 = .ok (.iload_n 1, 1) := by decide +kernel
theorem dX12_valueOf_25 : decode cX12_valueOf 25 = .ok (.iaload, 1) := by decide +kernel
theorem dX12_valueOf_26 : decode cX12_valueOf 26 = .ok (.aload_n 0, 1) := by decide +kernel
theorem dX12_valueOf_27 : decode cX12_valueOf 27 = .ok (.getfield 97, 3) := by decide +kernel
theorem dX12_valueOf_30 : decode cX12_valueOf 30 = .ok (.iload_n 1, 1) := by decide +kernel
theorem dX12_valueOf_31 : decode cX12_valueOf 31 = .ok (.iaload, 1) := by decide +kernel
theorem dX12_valueOf_32 : decode cX12_valueOf 32 = .ok (.aload_n 0, 1) := by decide +kernel
theorem dX12_valueOf_33 : decode cX12_valueOf 33 = .ok (.iload_n 1, 1) := by decide +kernel
theorem dX12_valueOf_34 : decode cX12_valueOf 34 = .ok (.invokevirtual 280, 3) := by decide +kernel
theorem dX12_valueOf_37 : decode cX12_valueOf 37 = .ok (.aload_n 0, 1) := by decide +kernel
theorem dX12_valueOf_38 : decode cX12_valueOf 38 = .ok (.iconst (-1), 1) := by decide +kernel
theorem dX12_valueOf_39 : decode cX12_valueOf 39 = .ok (.iload_n 1, 1) := by decide +kernel
theorem dX12_valueOf_40 : decode cX12_valueOf 40 = .ok (.invokevirtual 65, 3) := by decide +kernel
theorem dX12_valueOf_43 : decode cX12_valueOf 43 = .ok (.iload_n 2, 1) := by decide +kernel
theorem dX12_valueOf_44 : decode cX12_valueOf 44 = .ok (.iconst 2, 1) := by decide +kernel
theorem dX12_valueOf_45 : decode cX12_valueOf 45 = .ok (.if_icmp .ne 7, 3) := by decide +kernel
theorem dX12_valueOf_48 : decode cX12_valueOf 48 = .ok (.iload_n 3, 1) := by decide +kernel
theorem dX12_valueOf_49 : decode cX12_valueOf 49 = .ok (.goto 4, 3) := by decide +kernel
theorem dX12_valueOf_52 : decode cX12_valueOf 52 = .ok (.iconst 0, 1) := by decide +kernel
theorem dX12_valueOf_53 : decode cX12_valueOf 53 = .ok (.invokevirtual 78, 3) := by decide +kernel
theorem dX12_valueOf_56 : decode cX12_valueOf 56 = .ok (.ireturn, 1) := by decide +kernel
theorem dX12_says_0 : decode cX12_says 0 = .ok (.aload_n 0, 1) := by decide +kernel
theorem dX12_says_1 : decode cX12_says 1 = .ok (.iload_n 1, 1) := by decide +kernel
theorem dX12_says_2 : decode cX12_says 2 = .ok (.invokevirtual 126, 3) := by decide +kernel
theorem dX12_says_5 : decode cX12_says 5 = .ok (.ifCond .eq 38, 3) := by decide +kernel
theorem dX12_says_8 : decode cX12_says 8 = .ok (.iload_n 2, 1) := by decide +kernel
theorem dX12_says_9 : decode cX12_says 9 = .ok (.i2l, 1) := by decide +kernel
theorem dX12_says_10 : decode cX12_says 10 = .ok (.lconst 0, 1) := by decide +kernel
theorem dX12_says_11 : decode cX12_says 11 = .ok (.ldc2_w 111, 3) := by decide +kernel
theorem dX12_says_14 : decode cX12_says 14 = .ok (.invokestatic 15, 3) := by decide +kernel
theorem dX12_says_17 : decode cX12_says 17 = .ok (.ifCond .eq 26, 3) := by decide +kernel
theorem dX12_says_20 : decode cX12_says 20 = .ok (.iload_n 3, 1) := by decide +kernel
theorem dX12_says_21 : decode cX12_says 21 = .ok (.i2l, 1) := by decide +kernel
theorem dX12_says_22 : decode cX12_says 22 = .ok (.lconst 0, 1) := by decide +kernel
theorem dX12_says_23 : decode cX12_says 23 = .ok (.ldc2_w 73, 3) := by decide +kernel
theorem dX12_says_26 : decode cX12_says 26 = .ok (.invokestatic 15, 3) := by decide +kernel
theorem dX12_says_29 : decode cX12_says 29 = .ok (.ifCond .eq 14, 3) := by decide +kernel
theorem dX12_says_32 : decode cX12_says 32 = .ok (.aload_n 0, 1) := by decide +kernel
theorem dX12_says_33 : decode cX12_says 33 = .ok (.iload_n 1, 1) := by decide +kernel
theorem dX12_says_34 : decode cX12_says 34 = .ok (.iload_n 2, 1) := by decide +kernel
theorem dX12_says_35 : decode cX12_says 35 = .ok (.iload_n 3, 1) := by decide +kernel
theorem dX12_says_36 : decode cX12_says 36 = .ok (.invokevirtual 283, 3) := by decide +kernel
theorem dX12_says_39 : decode cX12_says 39 = .ok (.i2l, 1) := by decide +kernel
theorem dX12_says_40 : decode cX12_says 40 = .ok (.goto 6, 3) := by decide +kernel
theorem dX12_says_43 : decode cX12_says 43 = .ok (.ldc2_w 286, 3) := by decide +kernel
theorem dX12_says_46 : decode cX12_says 46 = .ok (.lreturn, 1) := by decide +kernel
theorem dX12_isBarred_0 : decode cX12_isBarred 0 = .ok (.aload_n 0, 1) := by decide +kernel
theorem dX12_isBarred_1 : decode cX12_isBarred 1 = .ok (.getfield 147, 3) := by decide +kernel
theorem dX12_isBarred_4 : decode cX12_isBarred 4 = .ok (.bipush 8, 2) := by decide +kernel
theorem dX12_isBarred_6 : decode cX12_isBarred 6 = .ok (.iload_n 2, 1) := by decide +kernel
theorem dX12_isBarred_7 : decode cX12_isBarred 7 = .ok (.imul, 1) := by decide +kernel
theorem dX12_isBarred_8 : decode cX12_isBarred 8 = .ok (.iload_n 1, 1) := by decide +kernel
theorem dX12_isBarred_9 : decode cX12_isBarred 9 = .ok (.iadd, 1) := by decide +kernel
theorem dX12_isBarred_10 : decode cX12_isBarred 10 = .ok (.baload, 1) := by decide +kernel
theorem dX12_isBarred_11 : decode cX12_isBarred 11 = .ok (.ifCond .ne 33, 3) := by decide +kernel
theorem dX12_isBarred_14 : decode cX12_isBarred 14 = .ok (.aload_n 0, 1) := by decide +kernel
theorem dX12_isBarred_15 : decode cX12_isBarred 15 = .ok (.getfield 49, 3) := by decide +kernel
theorem dX12_isBarred_18 : decode cX12_isBarred 18 = .ok (.iload_n 1, 1) := by decide +kernel
theorem dX12_isBarred_19 : decode cX12_isBarred 19 = .ok (.iaload, 1) := by decide +kernel
theorem dX12_isBarred_20 : decode cX12_isBarred 20 = .ok (.aload_n 0, 1) := by decide +kernel
theorem dX12_isBarred_21 : decode cX12_isBarred 21 = .ok (.getfield 85, 3) := by decide +kernel
theorem dX12_isBarred_24 : decode cX12_isBarred 24 = .ok (.iload_n 2, 1) := by decide +kernel
theorem dX12_isBarred_25 : decode cX12_isBarred 25 = .ok (.iaload, 1) := by decide +kernel
theorem dX12_isBarred_26 : decode cX12_isBarred 26 = .ok (.if_icmp .eq 18, 3) := by decide +kernel
theorem dX12_isBarred_29 : decode cX12_isBarred 29 = .ok (.aload_n 0, 1) := by decide +kernel
theorem dX12_isBarred_30 : decode cX12_isBarred 30 = .ok (.getfield 49, 3) := by decide +kernel
theorem dX12_isBarred_33 : decode cX12_isBarred 33 = .ok (.iload_n 1, 1) := by decide +kernel
theorem dX12_isBarred_34 : decode cX12_isBarred 34 = .ok (.iaload, 1) := by decide +kernel
theorem dX12_isBarred_35 : decode cX12_isBarred 35 = .ok (.aload_n 0, 1) := by decide +kernel
theorem dX12_isBarred_36 : decode cX12_isBarred 36 = .ok (.getfield 88, 3) := by decide +kernel
theorem dX12_isBarred_39 : decode cX12_isBarred 39 = .ok (.iload_n 2, 1) := by decide +kernel
theorem dX12_isBarred_40 : decode cX12_isBarred 40 = .ok (.iaload, 1) := by decide +kernel
theorem dX12_isBarred_41 : decode cX12_isBarred 41 = .ok (.if_icmp .ne 7, 3) := by decide +kernel
theorem dX12_isBarred_44 : decode cX12_isBarred 44 = .ok (.iconst 1, 1) := by decide +kernel
theorem dX12_isBarred_45 : decode cX12_isBarred 45 = .ok (.goto 4, 3) := by decide +kernel
theorem dX12_isBarred_48 : decode cX12_isBarred 48 = .ok (.iconst 0, 1) := by decide +kernel
theorem dX12_isBarred_49 : decode cX12_isBarred 49 = .ok (.ireturn, 1) := by decide +kernel
theorem dX12_bar_0 : decode cX12_bar 0 = .ok (.aload_n 0, 1) := by decide +kernel
theorem dX12_bar_1 : decode cX12_bar 1 = .ok (.iload_n 1, 1) := by decide +kernel
theorem dX12_bar_2 : decode cX12_bar 2 = .ok (.invokevirtual 58, 3) := by decide +kernel
theorem dX12_bar_5 : decode cX12_bar 5 = .ok (.ifCond .eq 11, 3) := by decide +kernel
theorem dX12_bar_8 : decode cX12_bar 8 = .ok (.aload_n 0, 1) := by decide +kernel
theorem dX12_bar_9 : decode cX12_bar 9 = .ok (.iload_n 2, 1) := by decide +kernel
theorem dX12_bar_10 : decode cX12_bar 10 = .ok (.invokevirtual 126, 3) := by decide +kernel
theorem dX12_bar_13 : decode cX12_bar 13 = .ok (.ifCond .ne 6, 3) := by decide +kernel
theorem dX12_bar_16 : decode cX12_bar 16 = .ok (.bipush (-2), 2) := by decide +kernel
theorem dX12_bar_18 : decode cX12_bar 18 = .ok (.ireturn, 1) := by decide +kernel
theorem dX12_bar_19 : decode cX12_bar 19 = .ok (.aload_n 0, 1) := by decide +kernel
theorem dX12_bar_20 : decode cX12_bar 20 = .ok (.getfield 147, 3) := by decide +kernel
theorem dX12_bar_23 : decode cX12_bar 23 = .ok (.bipush 8, 2) := by decide +kernel
theorem dX12_bar_25 : decode cX12_bar 25 = .ok (.iload_n 2, 1) := by decide +kernel
theorem dX12_bar_26 : decode cX12_bar 26 = .ok (.imul, 1) := by decide +kernel
theorem dX12_bar_27 : decode cX12_bar 27 = .ok (.iload_n 1, 1) := by decide +kernel
theorem dX12_bar_28 : decode cX12_bar 28 = .ok (.iadd, 1) := by decide +kernel
theorem dX12_bar_29 : decode cX12_bar 29 = .ok (.baload, 1) := by decide +kernel
theorem dX12_bar_30 : decode cX12_bar 30 = .ok (.istore_n 3, 1) := by decide +kernel
theorem dX12_bar_31 : decode cX12_bar 31 = .ok (.aload_n 0, 1) := by decide +kernel
theorem dX12_bar_32 : decode cX12_bar 32 = .ok (.getfield 147, 3) := by decide +kernel
theorem dX12_bar_35 : decode cX12_bar 35 = .ok (.bipush 8, 2) := by decide +kernel
theorem dX12_bar_37 : decode cX12_bar 37 = .ok (.iload_n 2, 1) := by decide +kernel
theorem dX12_bar_38 : decode cX12_bar 38 = .ok (.imul, 1) := by decide +kernel
theorem dX12_bar_39 : decode cX12_bar 39 = .ok (.iload_n 1, 1) := by decide +kernel
theorem dX12_bar_40 : decode cX12_bar 40 = .ok (.iadd, 1) := by decide +kernel
theorem dX12_bar_41 : decode cX12_bar 41 = .ok (.iconst 1, 1) := by decide +kernel
theorem dX12_bar_42 : decode cX12_bar 42 = .ok (.bastore, 1) := by decide +kernel
theorem dX12_bar_43 : decode cX12_bar 43 = .ok (.iload_n 3, 1) := by decide +kernel
theorem dX12_bar_44 : decode cX12_bar 44 = .ok (.ifCond .eq 7, 3) := by decide +kernel
theorem dX12_bar_47 : decode cX12_bar 47 = .ok (.iconst 0, 1) := by decide +kernel
theorem dX12_bar_48 : decode cX12_bar 48 = .ok (.goto 4, 3) := by decide +kernel
theorem dX12_bar_51 : decode cX12_bar 51 = .ok (.iconst 1, 1) := by decide +kernel
theorem dX12_bar_52 : decode cX12_bar 52 = .ok (.ireturn, 1) := by decide +kernel
theorem dX12_barred_0 : decode cX12_barred 0 = .ok (.aload_n 0, 1) := by decide +kernel
theorem dX12_barred_1 : decode cX12_barred 1 = .ok (.iload_n 1, 1) := by decide +kernel
theorem dX12_barred_2 : decode cX12_barred 2 = .ok (.invokevirtual 58, 3) := by decide +kernel
theorem dX12_barred_5 : decode cX12_barred 5 = .ok (.ifCond .eq 11, 3) := by decide +kernel
theorem dX12_barred_8 : decode cX12_barred 8 = .ok (.aload_n 0, 1) := by decide +kernel
theorem dX12_barred_9 : decode cX12_barred 9 = .ok (.iload_n 2, 1) := by decide +kernel
theorem dX12_barred_10 : decode cX12_barred 10 = .ok (.invokevirtual 126, 3) := by decide +kernel
theorem dX12_barred_13 : decode cX12_barred 13 = .ok (.ifCond .ne 8, 3) := by decide +kernel
theorem dX12_barred_16 : decode cX12_barred 16 = .ok (.bipush (-2), 2) := by decide +kernel
theorem dX12_barred_18 : decode cX12_barred 18 = .ok (.goto 17, 3) := by decide +kernel
theorem dX12_barred_21 : decode cX12_barred 21 = .ok (.aload_n 0, 1) := by decide +kernel
theorem dX12_barred_22 : decode cX12_barred 22 = .ok (.iload_n 1, 1) := by decide +kernel
theorem dX12_barred_23 : decode cX12_barred 23 = .ok (.iload_n 2, 1) := by decide +kernel
theorem dX12_barred_24 : decode cX12_barred 24 = .ok (.invokevirtual 288, 3) := by decide +kernel
theorem dX12_barred_27 : decode cX12_barred 27 = .ok (.ifCond .eq 7, 3) := by decide +kernel
theorem dX12_barred_30 : decode cX12_barred 30 = .ok (.iconst 1, 1) := by decide +kernel
theorem dX12_barred_31 : decode cX12_barred 31 = .ok (.goto 4, 3) := by decide +kernel
theorem dX12_barred_34 : decode cX12_barred 34 = .ok (.iconst 0, 1) := by decide +kernel
theorem dX12_barred_35 : decode cX12_barred 35 = .ok (.ireturn, 1) := by decide +kernel
theorem dX12_bestFor_0 : decode cX12_bestFor 0 = .ok (.iconst (-1), 1) := by decide +kernel
theorem dX12_bestFor_1 : decode cX12_bestFor 1 = .ok (.istore_n 3, 1) := by decide +kernel
theorem dX12_bestFor_2 : decode cX12_bestFor 2 = .ok (.iconst 0, 1) := by decide +kernel
theorem dX12_bestFor_3 : decode cX12_bestFor 3 = .ok (.istore 4, 2) := by decide +kernel
theorem dX12_bestFor_5 : decode cX12_bestFor 5 = .ok (.iload 4, 2) := by decide +kernel
theorem dX12_bestFor_7 : decode cX12_bestFor 7 = .ok (.aload_n 0, 1) := by decide +kernel
theorem dX12_bestFor_8 : decode cX12_bestFor 8 = .ok (.getfield 7, 3) := by decide +kernel
theorem dX12_bestFor_11 : decode cX12_bestFor 11 = .ok (.if_icmp .ge 141, 3) := by decide +kernel
theorem dX12_bestFor_14 : decode cX12_bestFor 14 = .ok (.aload_n 0, 1) := by decide +kernel
theorem dX12_bestFor_15 : decode cX12_bestFor 15 = .ok (.iload 4, 2) := by decide +kernel
theorem dX12_bestFor_17 : decode cX12_bestFor 17 = .ok (.iload_n 1, 1) := by decide +kernel
theorem dX12_bestFor_18 : decode cX12_bestFor 18 = .ok (.invokevirtual 288, 3) := by decide +kernel
theorem dX12_bestFor_21 : decode cX12_bestFor 21 = .ok (.ifCond .ne 125, 3) := by decide +kernel
theorem dX12_bestFor_24 : decode cX12_bestFor 24 = .ok (.iload_n 2, 1) := by decide +kernel
theorem dX12_bestFor_25 : decode cX12_bestFor 25 = .ok (.iload 4, 2) := by decide +kernel
theorem dX12_bestFor_27 : decode cX12_bestFor 27 = .ok (.ishr, 1) := by decide +kernel
theorem dX12_bestFor_28 : decode cX12_bestFor 28 = .ok (.iconst 1, 1) := by decide +kernel
theorem dX12_bestFor_29 : decode cX12_bestFor 29 = .ok (.iand, 1) := by decide +kernel
theorem dX12_bestFor_30 : decode cX12_bestFor 30 = .ok (.ifCond .ne 116, 3) := by decide +kernel
theorem dX12_bestFor_33 : decode cX12_bestFor 33 = .ok (.aload_n 0, 1) := by decide +kernel
theorem dX12_bestFor_34 : decode cX12_bestFor 34 = .ok (.iload 4, 2) := by decide +kernel
theorem dX12_bestFor_36 : decode cX12_bestFor 36 = .ok (.invokevirtual 61, 3) := by decide +kernel
theorem dX12_bestFor_39 : decode cX12_bestFor 39 = .ok (.aload_n 0, 1) := by decide +kernel
theorem dX12_bestFor_40 : decode cX12_bestFor 40 = .ok (.getfield 52, 3) := by decide +kernel
theorem dX12_bestFor_43 : decode cX12_bestFor 43 = .ok (.iload 4, 2) := by decide +kernel
theorem dX12_bestFor_45 : decode cX12_bestFor 45 = .ok (.iaload, 1) := by decide +kernel
theorem dX12_bestFor_46 : decode cX12_bestFor 46 = .ok (.if_icmp .ge 100, 3) := by decide +kernel
theorem dX12_bestFor_49 : decode cX12_bestFor 49 = .ok (.aload_n 0, 1) := by decide +kernel
theorem dX12_bestFor_50 : decode cX12_bestFor 50 = .ok (.getfield 46, 3) := by decide +kernel
theorem dX12_bestFor_53 : decode cX12_bestFor 53 = .ok (.iload 4, 2) := by decide +kernel
theorem dX12_bestFor_55 : decode cX12_bestFor 55 = .ok (.iaload, 1) := by decide +kernel
theorem dX12_bestFor_56 : decode cX12_bestFor 56 = .ok (.aload_n 0, 1) := by decide +kernel
theorem dX12_bestFor_57 : decode cX12_bestFor 57 = .ok (.getfield 91, 3) := by decide +kernel
theorem dX12_bestFor_60 : decode cX12_bestFor 60 = .ok (.iload_n 1, 1) := by decide +kernel
theorem dX12_bestFor_61 : decode cX12_bestFor 61 = .ok (.iaload, 1) := by decide +kernel
theorem dX12_bestFor_62 : decode cX12_bestFor 62 = .ok (.ishr, 1) := by decide +kernel
theorem dX12_bestFor_63 : decode cX12_bestFor 63 = .ok (.iconst 1, 1) := by decide +kernel
theorem dX12_bestFor_64 : decode cX12_bestFor 64 = .ok (.iand, 1) := by decide +kernel
theorem dX12_bestFor_65 : decode cX12_bestFor 65 = .ok (.iconst 1, 1) := by decide +kernel
theorem dX12_bestFor_66 : decode cX12_bestFor 66 = .ok (.if_icmp .ne 7, 3) := by decide +kernel
theorem dX12_bestFor_69 : decode cX12_bestFor 69 = .ok (.iconst 1, 1) := by decide +kernel
theorem dX12_bestFor_70 : decode cX12_bestFor 70 = .ok (.goto 4, 3) := by decide +kernel
theorem dX12_bestFor_73 : decode cX12_bestFor 73 = .ok (.iconst 0, 1) := by decide +kernel
theorem dX12_bestFor_74 : decode cX12_bestFor 74 = .ok (.istore 5, 2) := by decide +kernel
theorem dX12_bestFor_76 : decode cX12_bestFor 76 = .ok (.iload_n 3, 1) := by decide +kernel
theorem dX12_bestFor_77 : decode cX12_bestFor 77 = .ok (.iconst (-1), 1) := by decide +kernel
theorem dX12_bestFor_78 : decode cX12_bestFor 78 = .ok (.if_icmp .eq 26, 3) := by decide +kernel
theorem dX12_bestFor_81 : decode cX12_bestFor 81 = .ok (.aload_n 0, 1) := by decide +kernel
theorem dX12_bestFor_82 : decode cX12_bestFor 82 = .ok (.getfield 46, 3) := by decide +kernel
theorem dX12_bestFor_85 : decode cX12_bestFor 85 = .ok (.iload_n 3, 1) := by decide +kernel
theorem dX12_bestFor_86 : decode cX12_bestFor 86 = .ok (.iaload, 1) := by decide +kernel
theorem dX12_bestFor_87 : decode cX12_bestFor 87 = .ok (.aload_n 0, 1) := by decide +kernel
theorem dX12_bestFor_88 : decode cX12_bestFor 88 = .ok (.getfield 91, 3) := by decide +kernel
theorem dX12_bestFor_91 : decode cX12_bestFor 91 = .ok (.iload_n 1, 1) := by decide +kernel
theorem dX12_bestFor_92 : decode cX12_bestFor 92 = .ok (.iaload, 1) := by decide +kernel
theorem dX12_bestFor_93 : decode cX12_bestFor 93 = .ok (.ishr, 1) := by decide +kernel
theorem dX12_bestFor_94 : decode cX12_bestFor 94 = .ok (.iconst 1, 1) := by decide +kernel
theorem dX12_bestFor_95 : decode cX12_bestFor 95 = .ok (.iand, 1) := by decide +kernel
theorem dX12_bestFor_96 : decode cX12_bestFor 96 = .ok (.iconst 1, 1) := by decide +kernel
theorem dX12_bestFor_97 : decode cX12_bestFor 97 = .ok (.if_icmp .ne 7, 3) := by decide +kernel
theorem dX12_bestFor_100 : decode cX12_bestFor 100 = .ok (.iconst 1, 1) := by decide +kernel
theorem dX12_bestFor_101 : decode cX12_bestFor 101 = .ok (.goto 4, 3) := by decide +kernel
theorem dX12_bestFor_104 : decode cX12_bestFor 104 = .ok (.iconst 0, 1) := by decide +kernel
theorem dX12_bestFor_105 : decode cX12_bestFor 105 = .ok (.istore 6, 2) := by decide +kernel
theorem dX12_bestFor_107 : decode cX12_bestFor 107 = .ok (.iload_n 3, 1) := by decide +kernel
theorem dX12_bestFor_108 : decode cX12_bestFor 108 = .ok (.iconst (-1), 1) := by decide +kernel
theorem dX12_bestFor_109 : decode cX12_bestFor 109 = .ok (.if_icmp .eq 34, 3) := by decide +kernel
theorem dX12_bestFor_112 : decode cX12_bestFor 112 = .ok (.iload 5, 2) := by decide +kernel
theorem dX12_bestFor_114 : decode cX12_bestFor 114 = .ok (.ifCond .eq 8, 3) := by decide +kernel
theorem dX12_bestFor_117 : decode cX12_bestFor 117 = .ok (.iload 6, 2) := by decide +kernel
theorem dX12_bestFor_119 : decode cX12_bestFor 119 = .ok (.ifCond .eq 24, 3) := by decide +kernel
theorem dX12_bestFor_122 : decode cX12_bestFor 122 = .ok (.iload 5, 2) := by decide +kernel
theorem dX12_bestFor_124 : decode cX12_bestFor 124 = .ok (.iload 6, 2) := by decide +kernel
theorem dX12_bestFor_126 : decode cX12_bestFor 126 = .ok (.if_icmp .ne 20, 3) := by decide +kernel
theorem dX12_bestFor_129 : decode cX12_bestFor 129 = .ok (.aload_n 0, 1) := by decide +kernel
theorem dX12_bestFor_130 : decode cX12_bestFor 130 = .ok (.iload 4, 2) := by decide +kernel
theorem dX12_bestFor_132 : decode cX12_bestFor 132 = .ok (.invokevirtual 61, 3) := by decide +kernel
theorem dX12_bestFor_135 : decode cX12_bestFor 135 = .ok (.aload_n 0, 1) := by decide +kernel
theorem dX12_bestFor_136 : decode cX12_bestFor 136 = .ok (.iload_n 3, 1) := by decide +kernel
theorem dX12_bestFor_137 : decode cX12_bestFor 137 = .ok (.invokevirtual 61, 3) := by decide +kernel
theorem dX12_bestFor_140 : decode cX12_bestFor 140 = .ok (.if_icmp .ge 6, 3) := by decide +kernel
theorem dX12_bestFor_143 : decode cX12_bestFor 143 = .ok (.iload 4, 2) := by decide +kernel
theorem dX12_bestFor_145 : decode cX12_bestFor 145 = .ok (.istore_n 3, 1) := by decide +kernel
theorem dX12_bestFor_146 : decode cX12_bestFor 146 = .ok (.iinc 4 1, 3) := by decide +kernel
theorem dX12_bestFor_149 : decode cX12_bestFor 149 = .ok (.goto (-144), 3) := by decide +kernel
theorem dX12_bestFor_152 : decode cX12_bestFor 152 = .ok (.iload_n 3, 1) := by decide +kernel
theorem dX12_bestFor_153 : decode cX12_bestFor 153 = .ok (.ireturn, 1) := by decide +kernel
theorem dX12_deal_0 : decode cX12_deal 0 = .ok (.iconst 0, 1) := by decide +kernel
theorem dX12_deal_1 : decode cX12_deal 1 = .ok (.istore_n 1, 1) := by decide +kernel
theorem dX12_deal_2 : decode cX12_deal 2 = .ok (.iconst 0, 1) := by decide +kernel
theorem dX12_deal_3 : decode cX12_deal 3 = .ok (.istore_n 2, 1) := by decide +kernel
theorem dX12_deal_4 : decode cX12_deal 4 = .ok (.iload_n 2, 1) := by decide +kernel
theorem dX12_deal_5 : decode cX12_deal 5 = .ok (.aload_n 0, 1) := by decide +kernel
theorem dX12_deal_6 : decode cX12_deal 6 = .ok (.getfield 10, 3) := by decide +kernel
theorem dX12_deal_9 : decode cX12_deal 9 = .ok (.if_icmp .ge 99, 3) := by decide +kernel
theorem dX12_deal_12 : decode cX12_deal 12 = .ok (.aload_n 0, 1) := by decide +kernel
theorem dX12_deal_13 : decode cX12_deal 13 = .ok (.getfield 55, 3) := by decide +kernel
theorem dX12_deal_16 : decode cX12_deal 16 = .ok (.iload_n 2, 1) := by decide +kernel
theorem dX12_deal_17 : decode cX12_deal 17 = .ok (.iaload, 1) := by decide +kernel
theorem dX12_deal_18 : decode cX12_deal 18 = .ok (.ifCond .eq 6, 3) := by decide +kernel
theorem dX12_deal_21 : decode cX12_deal 21 = .ok (.goto 81, 3) := by decide +kernel
theorem dX12_deal_24 : decode cX12_deal 24 = .ok (.iconst 0, 1) := by decide +kernel
theorem dX12_deal_25 : decode cX12_deal 25 = .ok (.istore_n 3, 1) := by decide +kernel
theorem dX12_deal_26 : decode cX12_deal 26 = .ok (.iconst 0, 1) := by decide +kernel
theorem dX12_deal_27 : decode cX12_deal 27 = .ok (.istore 4, 2) := by decide +kernel
theorem dX12_deal_29 : decode cX12_deal 29 = .ok (.aload_n 0, 1) := by decide +kernel
theorem dX12_deal_30 : decode cX12_deal 30 = .ok (.iload_n 2, 1) := by decide +kernel
theorem dX12_deal_31 : decode cX12_deal 31 = .ok (.iload_n 3, 1) := by decide +kernel
theorem dX12_deal_32 : decode cX12_deal 32 = .ok (.invokevirtual 292, 3) := by decide +kernel
theorem dX12_deal_35 : decode cX12_deal 35 = .ok (.istore 5, 2) := by decide +kernel
theorem dX12_deal_37 : decode cX12_deal 37 = .ok (.iload 5, 2) := by decide +kernel
theorem dX12_deal_39 : decode cX12_deal 39 = .ok (.iconst (-1), 1) := by decide +kernel
theorem dX12_deal_40 : decode cX12_deal 40 = .ok (.if_icmp .eq 38, 3) := by decide +kernel
theorem dX12_deal_43 : decode cX12_deal 43 = .ok (.iload 4, 2) := by decide +kernel
theorem dX12_deal_45 : decode cX12_deal 45 = .ok (.aload_n 0, 1) := by decide +kernel
theorem dX12_deal_46 : decode cX12_deal 46 = .ok (.getfield 82, 3) := by decide +kernel
theorem dX12_deal_49 : decode cX12_deal 49 = .ok (.iload_n 2, 1) := by decide +kernel
theorem dX12_deal_50 : decode cX12_deal 50 = .ok (.iaload, 1) := by decide +kernel
theorem dX12_deal_51 : decode cX12_deal 51 = .ok (.invokestatic 129, 3) := by decide +kernel
theorem dX12_deal_54 : decode cX12_deal 54 = .ok (.if_icmp .ge 24, 3) := by decide +kernel
theorem dX12_deal_57 : decode cX12_deal 57 = .ok (.iload_n 3, 1) := by decide +kernel
theorem dX12_deal_58 : decode cX12_deal 58 = .ok (.iconst 1, 1) := by decide +kernel
theorem dX12_deal_59 : decode cX12_deal 59 = .ok (.iload 5, 2) := by decide +kernel
theorem dX12_deal_61 : decode cX12_deal 61 = .ok (.ishl, 1) := by decide +kernel
theorem dX12_deal_62 : decode cX12_deal 62 = .ok (.ior, 1) := by decide +kernel
theorem dX12_deal_63 : decode cX12_deal 63 = .ok (.istore_n 3, 1) := by decide +kernel
theorem dX12_deal_64 : decode cX12_deal 64 = .ok (.iinc 4 1, 3) := by decide +kernel
theorem dX12_deal_67 : decode cX12_deal 67 = .ok (.aload_n 0, 1) := by decide +kernel
theorem dX12_deal_68 : decode cX12_deal 68 = .ok (.iload_n 2, 1) := by decide +kernel
theorem dX12_deal_69 : decode cX12_deal 69 = .ok (.iload_n 3, 1) := by decide +kernel
theorem dX12_deal_70 : decode cX12_deal 70 = .ok (.invokevirtual 292, 3) := by decide +kernel
theorem dX12_deal_73 : decode cX12_deal 73 = .ok (.istore 5, 2) := by decide +kernel
theorem dX12_deal_75 : decode cX12_deal 75 = .ok (.goto (-38), 3) := by decide +kernel
theorem dX12_deal_78 : decode cX12_deal 78 = .ok (.iload 4, 2) := by decide +kernel
theorem dX12_deal_80 : decode cX12_deal 80 = .ok (.aload_n 0, 1) := by decide +kernel
theorem dX12_deal_81 : decode cX12_deal 81 = .ok (.getfield 82, 3) := by decide +kernel
theorem dX12_deal_84 : decode cX12_deal 84 = .ok (.iload_n 2, 1) := by decide +kernel
theorem dX12_deal_85 : decode cX12_deal 85 = .ok (.iaload, 1) := by decide +kernel
theorem dX12_deal_86 : decode cX12_deal 86 = .ok (.invokestatic 129, 3) := by decide +kernel
theorem dX12_deal_89 : decode cX12_deal 89 = .ok (.if_icmp .ne 13, 3) := by decide +kernel
theorem dX12_deal_92 : decode cX12_deal 92 = .ok (.aload_n 0, 1) := by decide +kernel
theorem dX12_deal_93 : decode cX12_deal 93 = .ok (.getfield 55, 3) := by decide +kernel
theorem dX12_deal_96 : decode cX12_deal 96 = .ok (.iload_n 2, 1) := by decide +kernel
theorem dX12_deal_97 : decode cX12_deal 97 = .ok (.iload_n 3, 1) := by decide +kernel
theorem dX12_deal_98 : decode cX12_deal 98 = .ok (.iastore, 1) := by decide +kernel
theorem dX12_deal_99 : decode cX12_deal 99 = .ok (.iinc 1 1, 3) := by decide +kernel
theorem dX12_deal_102 : decode cX12_deal 102 = .ok (.iinc 2 1, 3) := by decide +kernel
theorem dX12_deal_105 : decode cX12_deal 105 = .ok (.goto (-101), 3) := by decide +kernel
theorem dX12_deal_108 : decode cX12_deal 108 = .ok (.iload_n 1, 1) := by decide +kernel
theorem dX12_deal_109 : decode cX12_deal 109 = .ok (.ireturn, 1) := by decide +kernel
theorem dX12_pairsOf_0 : decode cX12_pairsOf 0 = .ok (.iconst 0, 1) := by decide +kernel
theorem dX12_pairsOf_1 : decode cX12_pairsOf 1 = .ok (.istore_n 2, 1) := by decide +kernel
theorem dX12_pairsOf_2 : decode cX12_pairsOf 2 = .ok (.iconst 0, 1) := by decide +kernel
theorem dX12_pairsOf_3 : decode cX12_pairsOf 3 = .ok (.istore_n 3, 1) := by decide +kernel
theorem dX12_pairsOf_4 : decode cX12_pairsOf 4 = .ok (.iload_n 3, 1) := by decide +kernel
theorem dX12_pairsOf_5 : decode cX12_pairsOf 5 = .ok (.aload_n 0, 1) := by decide +kernel
theorem dX12_pairsOf_6 : decode cX12_pairsOf 6 = .ok (.getfield 7, 3) := by decide +kernel
theorem dX12_pairsOf_9 : decode cX12_pairsOf 9 = .ok (.if_icmp .ge 31, 3) := by decide +kernel
theorem dX12_pairsOf_12 : decode cX12_pairsOf 12 = .ok (.iload_n 2, 1) := by decide +kernel
theorem dX12_pairsOf_13 : decode cX12_pairsOf 13 = .ok (.aload_n 0, 1) := by decide +kernel
theorem dX12_pairsOf_14 : decode cX12_pairsOf 14 = .ok (.getfield 189, 3) := by decide +kernel
theorem dX12_pairsOf_17 : decode cX12_pairsOf 17 = .ok (.bipush 8, 2) := by decide +kernel
theorem dX12_pairsOf_19 : decode cX12_pairsOf 19 = .ok (.iload_n 1, 1) := by decide +kernel
theorem dX12_pairsOf_20 : decode cX12_pairsOf 20 = .ok (.imul, 1) := by decide +kernel
theorem dX12_pairsOf_21 : decode cX12_pairsOf 21 = .ok (.iload_n 3, 1) := by decide +kernel
theorem dX12_pairsOf_22 : decode cX12_pairsOf 22 = .ok (.iadd, 1) := by decide +kernel
theorem dX12_pairsOf_23 : decode cX12_pairsOf 23 = .ok (.baload, 1) := by decide +kernel
theorem dX12_pairsOf_24 : decode cX12_pairsOf 24 = .ok (.ifCond .eq 7, 3) := by decide +kernel
theorem dX12_pairsOf_27 : decode cX12_pairsOf 27 = .ok (.iconst 1, 1) := by decide +kernel
theorem dX12_pairsOf_28 : decode cX12_pairsOf 28 = .ok (.goto 4, 3) := by decide +kernel
theorem dX12_pairsOf_31 : decode cX12_pairsOf 31 = .ok (.iconst 0, 1) := by decide +kernel
theorem dX12_pairsOf_32 : decode cX12_pairsOf 32 = .ok (.iadd, 1) := by decide +kernel
theorem dX12_pairsOf_33 : decode cX12_pairsOf 33 = .ok (.istore_n 2, 1) := by decide +kernel
theorem dX12_pairsOf_34 : decode cX12_pairsOf 34 = .ok (.iinc 3 1, 3) := by decide +kernel
theorem dX12_pairsOf_37 : decode cX12_pairsOf 37 = .ok (.goto (-33), 3) := by decide +kernel
theorem dX12_pairsOf_40 : decode cX12_pairsOf 40 = .ok (.iload_n 2, 1) := by decide +kernel
theorem dX12_pairsOf_41 : decode cX12_pairsOf 41 = .ok (.ireturn, 1) := by decide +kernel
theorem dX12_pairsBy_0 : decode cX12_pairsBy 0 = .ok (.iconst 0, 1) := by decide +kernel
theorem dX12_pairsBy_1 : decode cX12_pairsBy 1 = .ok (.istore_n 2, 1) := by decide +kernel
theorem dX12_pairsBy_2 : decode cX12_pairsBy 2 = .ok (.iconst 0, 1) := by decide +kernel
theorem dX12_pairsBy_3 : decode cX12_pairsBy 3 = .ok (.istore_n 3, 1) := by decide +kernel
theorem dX12_pairsBy_4 : decode cX12_pairsBy 4 = .ok (.iload_n 3, 1) := by decide +kernel
theorem dX12_pairsBy_5 : decode cX12_pairsBy 5 = .ok (.aload_n 0, 1) := by decide +kernel
theorem dX12_pairsBy_6 : decode cX12_pairsBy 6 = .ok (.getfield 10, 3) := by decide +kernel
theorem dX12_pairsBy_9 : decode cX12_pairsBy 9 = .ok (.if_icmp .ge 31, 3) := by decide +kernel
theorem dX12_pairsBy_12 : decode cX12_pairsBy 12 = .ok (.iload_n 2, 1) := by decide +kernel
theorem dX12_pairsBy_13 : decode cX12_pairsBy 13 = .ok (.aload_n 0, 1) := by decide +kernel
theorem dX12_pairsBy_14 : decode cX12_pairsBy 14 = .ok (.getfield 189, 3) := by decide +kernel
theorem dX12_pairsBy_17 : decode cX12_pairsBy 17 = .ok (.bipush 8, 2) := by decide +kernel
theorem dX12_pairsBy_19 : decode cX12_pairsBy 19 = .ok (.iload_n 3, 1) := by decide +kernel
theorem dX12_pairsBy_20 : decode cX12_pairsBy 20 = .ok (.imul, 1) := by decide +kernel
theorem dX12_pairsBy_21 : decode cX12_pairsBy 21 = .ok (.iload_n 1, 1) := by decide +kernel
theorem dX12_pairsBy_22 : decode cX12_pairsBy 22 = .ok (.iadd, 1) := by decide +kernel
theorem dX12_pairsBy_23 : decode cX12_pairsBy 23 = .ok (.baload, 1) := by decide +kernel
theorem dX12_pairsBy_24 : decode cX12_pairsBy 24 = .ok (.ifCond .eq 7, 3) := by decide +kernel
theorem dX12_pairsBy_27 : decode cX12_pairsBy 27 = .ok (.iconst 1, 1) := by decide +kernel
theorem dX12_pairsBy_28 : decode cX12_pairsBy 28 = .ok (.goto 4, 3) := by decide +kernel
theorem dX12_pairsBy_31 : decode cX12_pairsBy 31 = .ok (.iconst 0, 1) := by decide +kernel
theorem dX12_pairsBy_32 : decode cX12_pairsBy 32 = .ok (.iadd, 1) := by decide +kernel
theorem dX12_pairsBy_33 : decode cX12_pairsBy 33 = .ok (.istore_n 2, 1) := by decide +kernel
theorem dX12_pairsBy_34 : decode cX12_pairsBy 34 = .ok (.iinc 3 1, 3) := by decide +kernel
theorem dX12_pairsBy_37 : decode cX12_pairsBy 37 = .ok (.goto (-33), 3) := by decide +kernel
theorem dX12_pairsBy_40 : decode cX12_pairsBy 40 = .ok (.iload_n 2, 1) := by decide +kernel
theorem dX12_pairsBy_41 : decode cX12_pairsBy 41 = .ok (.ireturn, 1) := by decide +kernel
theorem dX12_isPaired_0 : decode cX12_isPaired 0 = .ok (.iconst 0, 1) := by decide +kernel
theorem dX12_isPaired_1 : decode cX12_isPaired 1 = .ok (.istore_n 2, 1) := by decide +kernel
theorem dX12_isPaired_2 : decode cX12_isPaired 2 = .ok (.iload_n 2, 1) := by decide +kernel
theorem dX12_isPaired_3 : decode cX12_isPaired 3 = .ok (.aload_n 0, 1) := by decide +kernel
theorem dX12_isPaired_4 : decode cX12_isPaired 4 = .ok (.getfield 10, 3) := by decide +kernel
theorem dX12_isPaired_7 : decode cX12_isPaired 7 = .ok (.if_icmp .ge 16, 3) := by decide +kernel
theorem dX12_isPaired_10 : decode cX12_isPaired 10 = .ok (.aload_n 0, 1) := by decide +kernel
theorem dX12_isPaired_11 : decode cX12_isPaired 11 = .ok (.getfield 192, 3) := by decide +kernel
theorem dX12_isPaired_14 : decode cX12_isPaired 14 = .ok (.iload_n 2, 1) := by decide +kernel
theorem dX12_isPaired_15 : decode cX12_isPaired 15 = .ok (.iconst (-1), 1) := by decide +kernel
theorem dX12_isPaired_16 : decode cX12_isPaired 16 = .ok (.iastore, 1) := by decide +kernel
theorem dX12_isPaired_17 : decode cX12_isPaired 17 = .ok (.iinc 2 1, 3) := by decide +kernel
theorem dX12_isPaired_20 : decode cX12_isPaired 20 = .ok (.goto (-18), 3) := by decide +kernel
theorem dX12_isPaired_23 : decode cX12_isPaired 23 = .ok (.iconst 0, 1) := by decide +kernel
theorem dX12_isPaired_24 : decode cX12_isPaired 24 = .ok (.istore_n 2, 1) := by decide +kernel
theorem dX12_isPaired_25 : decode cX12_isPaired 25 = .ok (.iload_n 2, 1) := by decide +kernel
theorem dX12_isPaired_26 : decode cX12_isPaired 26 = .ok (.aload_n 0, 1) := by decide +kernel
theorem dX12_isPaired_27 : decode cX12_isPaired 27 = .ok (.getfield 7, 3) := by decide +kernel
theorem dX12_isPaired_30 : decode cX12_isPaired 30 = .ok (.if_icmp .ge 16, 3) := by decide +kernel
theorem dX12_isPaired_33 : decode cX12_isPaired 33 = .ok (.aload_n 0, 1) := by decide +kernel
theorem dX12_isPaired_34 : decode cX12_isPaired 34 = .ok (.getfield 195, 3) := by decide +kernel
theorem dX12_isPaired_37 : decode cX12_isPaired 37 = .ok (.iload_n 2, 1) := by decide +kernel
theorem dX12_isPaired_38 : decode cX12_isPaired 38 = .ok (.iconst (-1), 1) := by decide +kernel
theorem dX12_isPaired_39 : decode cX12_isPaired 39 = .ok (.iastore, 1) := by decide +kernel
theorem dX12_isPaired_40 : decode cX12_isPaired 40 = .ok (.iinc 2 1, 3) := by decide +kernel
theorem dX12_isPaired_43 : decode cX12_isPaired 43 = .ok (.goto (-18), 3) := by decide +kernel
theorem dX12_isPaired_46 : decode cX12_isPaired 46 = .ok (.aload_n 0, 1) := by decide +kernel
theorem dX12_isPaired_47 : decode cX12_isPaired 47 = .ok (.getfield 192, 3) := by decide +kernel
theorem dX12_isPaired_50 : decode cX12_isPaired 50 = .ok (.iload_n 1, 1) := by decide +kernel
theorem dX12_isPaired_51 : decode cX12_isPaired 51 = .ok (.bipush 99, 2) := by decide +kernel
theorem dX12_isPaired_53 : decode cX12_isPaired 53 = .ok (.iastore, 1) := by decide +kernel
theorem dX12_isPaired_54 : decode cX12_isPaired 54 = .ok (.iconst (-1), 1) := by decide +kernel
theorem dX12_isPaired_55 : decode cX12_isPaired 55 = .ok (.istore_n 2, 1) := by decide +kernel
theorem dX12_isPaired_56 : decode cX12_isPaired 56 = .ok (.iconst 1, 1) := by decide +kernel
theorem dX12_isPaired_57 : decode cX12_isPaired 57 = .ok (.istore_n 3, 1) := by decide +kernel
theorem dX12_isPaired_58 : decode cX12_isPaired 58 = .ok (.iload_n 3, 1) := by decide +kernel
theorem dX12_isPaired_59 : decode cX12_isPaired 59 = .ok (.ifCond .eq 231, 3) := by decide +kernel
theorem dX12_isPaired_62 : decode cX12_isPaired 62 = .ok (.iload_n 2, 1) := by decide +kernel
theorem dX12_isPaired_63 : decode cX12_isPaired 63 = .ok (.iconst (-1), 1) := by decide +kernel
theorem dX12_isPaired_64 : decode cX12_isPaired 64 = .ok (.if_icmp .ne 226, 3) := by decide +kernel
theorem dX12_isPaired_67 : decode cX12_isPaired 67 = .ok (.iconst 0, 1) := by decide +kernel
theorem dX12_isPaired_68 : decode cX12_isPaired 68 = .ok (.istore_n 3, 1) := by decide +kernel
theorem dX12_isPaired_69 : decode cX12_isPaired 69 = .ok (.iconst 0, 1) := by decide +kernel
theorem dX12_isPaired_70 : decode cX12_isPaired 70 = .ok (.istore 4, 2) := by decide +kernel
theorem dX12_isPaired_72 : decode cX12_isPaired 72 = .ok (.iload 4, 2) := by decide +kernel
theorem dX12_isPaired_74 : decode cX12_isPaired 74 = .ok (.aload_n 0, 1) := by decide +kernel
theorem dX12_isPaired_75 : decode cX12_isPaired 75 = .ok (.getfield 10, 3) := by decide +kernel
theorem dX12_isPaired_78 : decode cX12_isPaired 78 = .ok (.bipush 8, 2) := by decide +kernel
theorem dX12_isPaired_80 : decode cX12_isPaired 80 = .ok (.imul, 1) := by decide +kernel
theorem dX12_isPaired_81 : decode cX12_isPaired 81 = .ok (.if_icmp .ge 114, 3) := by decide +kernel
theorem dX12_isPaired_84 : decode cX12_isPaired 84 = .ok (.iload_n 2, 1) := by decide +kernel
theorem dX12_isPaired_85 : decode cX12_isPaired 85 = .ok (.iconst (-1), 1) := by decide +kernel
theorem dX12_isPaired_86 : decode cX12_isPaired 86 = .ok (.if_icmp .ne 109, 3) := by decide +kernel
theorem dX12_isPaired_89 : decode cX12_isPaired 89 = .ok (.iload 4, 2) := by decide +kernel
theorem dX12_isPaired_91 : decode cX12_isPaired 91 = .ok (.bipush 8, 2) := by decide +kernel
theorem dX12_isPaired_93 : decode cX12_isPaired 93 = .ok (.idiv, 1) := by decide +kernel
theorem dX12_isPaired_94 : decode cX12_isPaired 94 = .ok (.istore 5, 2) := by decide +kernel
theorem dX12_isPaired_96 : decode cX12_isPaired 96 = .ok (.iload 4, 2) := by decide +kernel
theorem dX12_isPaired_98 : decode cX12_isPaired 98 = .ok (.bipush 8, 2) := by decide +kernel
theorem dX12_isPaired_100 : decode cX12_isPaired 100 = .ok (.irem, 1) := by decide +kernel
theorem dX12_isPaired_101 : decode cX12_isPaired 101 = .ok (.istore 6, 2) := by decide +kernel
theorem dX12_isPaired_103 : decode cX12_isPaired 103 = .ok (.iload 6, 2) := by decide +kernel
theorem dX12_isPaired_105 : decode cX12_isPaired 105 = .ok (.aload_n 0, 1) := by decide +kernel
theorem dX12_isPaired_106 : decode cX12_isPaired 106 = .ok (.getfield 7, 3) := by decide +kernel
theorem dX12_isPaired_109 : decode cX12_isPaired 109 = .ok (.if_icmp .ge 80, 3) := by decide +kernel
theorem dX12_isPaired_112 : decode cX12_isPaired 112 = .ok (.aload_n 0, 1) := by decide +kernel
theorem dX12_isPaired_113 : decode cX12_isPaired 113 = .ok (.getfield 192, 3) := by decide +kernel
theorem dX12_isPaired_116 : decode cX12_isPaired 116 = .ok (.iload 5, 2) := by decide +kernel
theorem dX12_isPaired_118 : decode cX12_isPaired 118 = .ok (.iaload, 1) := by decide +kernel
theorem dX12_isPaired_119 : decode cX12_isPaired 119 = .ok (.iconst (-1), 1) := by decide +kernel
theorem dX12_isPaired_120 : decode cX12_isPaired 120 = .ok (.if_icmp .eq 69, 3) := by decide +kernel
theorem dX12_isPaired_123 : decode cX12_isPaired 123 = .ok (.aload_n 0, 1) := by decide +kernel
theorem dX12_isPaired_124 : decode cX12_isPaired 124 = .ok (.getfield 195, 3) := by decide +kernel
theorem dX12_isPaired_127 : decode cX12_isPaired 127 = .ok (.iload 6, 2) := by decide +kernel
theorem dX12_isPaired_129 : decode cX12_isPaired 129 = .ok (.iaload, 1) := by decide +kernel
theorem dX12_isPaired_130 : decode cX12_isPaired 130 = .ok (.iconst (-1), 1) := by decide +kernel
theorem dX12_isPaired_131 : decode cX12_isPaired 131 = .ok (.if_icmp .ne 58, 3) := by decide +kernel
theorem dX12_isPaired_134 : decode cX12_isPaired 134 = .ok (.aload_n 0, 1) := by decide +kernel
theorem dX12_isPaired_135 : decode cX12_isPaired 135 = .ok (.getfield 189, 3) := by decide +kernel
theorem dX12_isPaired_138 : decode cX12_isPaired 138 = .ok (.iload 4, 2) := by decide +kernel
theorem dX12_isPaired_140 : decode cX12_isPaired 140 = .ok (.baload, 1) := by decide +kernel
theorem dX12_isPaired_141 : decode cX12_isPaired 141 = .ok (.ifCond .ne 48, 3) := by decide +kernel
theorem dX12_isPaired_144 : decode cX12_isPaired 144 = .ok (.aload_n 0, 1) := by decide +kernel
theorem dX12_isPaired_145 : decode cX12_isPaired 145 = .ok (.iload 6, 2) := by decide +kernel
theorem dX12_isPaired_147 : decode cX12_isPaired 147 = .ok (.iload 5, 2) := by decide +kernel
theorem dX12_isPaired_149 : decode cX12_isPaired 149 = .ok (.invokevirtual 288, 3) := by decide +kernel
theorem dX12_isPaired_152 : decode cX12_isPaired 152 = .ok (.ifCond .ne 37, 3) := by decide +kernel
theorem dX12_isPaired_155 : decode cX12_isPaired 155 = .ok (.aload_n 0, 1) := by decide +kernel
theorem dX12_isPaired_156 : decode cX12_isPaired 156 = .ok (.getfield 195, 3) := by decide +kernel
theorem dX12_isPaired_159 : decode cX12_isPaired 159 = .ok (.iload 6, 2) := by decide +kernel
theorem dX12_isPaired_161 : decode cX12_isPaired 161 = .ok (.iload 5, 2) := by decide +kernel
theorem dX12_isPaired_163 : decode cX12_isPaired 163 = .ok (.iastore, 1) := by decide +kernel
theorem dX12_isPaired_164 : decode cX12_isPaired 164 = .ok (.iconst 1, 1) := by decide +kernel
theorem dX12_isPaired_165 : decode cX12_isPaired 165 = .ok (.istore_n 3, 1) := by decide +kernel
theorem dX12_isPaired_166 : decode cX12_isPaired 166 = .ok (.aload_n 0, 1) := by decide +kernel
theorem dX12_isPaired_167 : decode cX12_isPaired 167 = .ok (.iload 6, 2) := by decide +kernel
theorem dX12_isPaired_169 : decode cX12_isPaired 169 = .ok (.invokevirtual 295, 3) := by decide +kernel
theorem dX12_isPaired_172 : decode cX12_isPaired 172 = .ok (.aload_n 0, 1) := by decide +kernel
theorem dX12_isPaired_173 : decode cX12_isPaired 173 = .ok (.getfield 52, 3) := by decide +kernel
theorem dX12_isPaired_176 : decode cX12_isPaired 176 = .ok (.iload 6, 2) := by decide +kernel
theorem dX12_isPaired_178 : decode cX12_isPaired 178 = .ok (.iaload, 1) := by decide +kernel
theorem dX12_isPaired_179 : decode cX12_isPaired 179 = .ok (.if_icmp .ge 8, 3) := by decide +kernel
theorem dX12_isPaired_182 : decode cX12_isPaired 182 = .ok (.iload 6, 2) := by decide +kernel
theorem dX12_isPaired_184 : decode cX12_isPaired 184 = .ok (.goto 4, 3) := by decide +kernel
theorem dX12_isPaired_187 : decode cX12_isPaired 187 = .ok (.iconst (-1), 1) := by decide +kernel
theorem dX12_isPaired_188 : decode cX12_isPaired 188 = .ok (.istore_n 2, 1) := by decide +kernel
theorem dX12_isPaired_189 : decode cX12_isPaired 189 = .ok (.iinc 4 1, 3) := by decide +kernel
theorem dX12_isPaired_192 : decode cX12_isPaired 192 = .ok (.goto (-120), 3) := by decide +kernel
theorem dX12_isPaired_195 : decode cX12_isPaired 195 = .ok (.iconst 0, 1) := by decide +kernel
theorem dX12_isPaired_196 : decode cX12_isPaired 196 = .ok (.istore 4, 2) := by decide +kernel
theorem dX12_isPaired_198 : decode cX12_isPaired 198 = .ok (.iload 4, 2) := by decide +kernel
theorem dX12_isPaired_200 : decode cX12_isPaired 200 = .ok (.aload_n 0, 1) := by decide +kernel
theorem dX12_isPaired_201 : decode cX12_isPaired 201 = .ok (.getfield 10, 3) := by decide +kernel
theorem dX12_isPaired_204 : decode cX12_isPaired 204 = .ok (.bipush 8, 2) := by decide +kernel
theorem dX12_isPaired_206 : decode cX12_isPaired 206 = .ok (.imul, 1) := by decide +kernel
theorem dX12_isPaired_207 : decode cX12_isPaired 207 = .ok (.if_icmp .ge 80, 3) := by decide +kernel
theorem dX12_isPaired_210 : decode cX12_isPaired 210 = .ok (.iload_n 2, 1) := by decide +kernel
theorem dX12_isPaired_211 : decode cX12_isPaired 211 = .ok (.iconst (-1), 1) := by decide +kernel
theorem dX12_isPaired_212 : decode cX12_isPaired 212 = .ok (.if_icmp .ne 75, 3) := by decide +kernel
theorem dX12_isPaired_215 : decode cX12_isPaired 215 = .ok (.iload 4, 2) := by decide +kernel
theorem dX12_isPaired_217 : decode cX12_isPaired 217 = .ok (.bipush 8, 2) := by decide +kernel
theorem dX12_isPaired_219 : decode cX12_isPaired 219 = .ok (.idiv, 1) := by decide +kernel
theorem dX12_isPaired_220 : decode cX12_isPaired 220 = .ok (.istore 5, 2) := by decide +kernel
theorem dX12_isPaired_222 : decode cX12_isPaired 222 = .ok (.iload 4, 2) := by decide +kernel
theorem dX12_isPaired_224 : decode cX12_isPaired 224 = .ok (.bipush 8, 2) := by decide +kernel
theorem dX12_isPaired_226 : decode cX12_isPaired 226 = .ok (.irem, 1) := by decide +kernel
theorem dX12_isPaired_227 : decode cX12_isPaired 227 = .ok (.istore 6, 2) := by decide +kernel
theorem dX12_isPaired_229 : decode cX12_isPaired 229 = .ok (.iload 6, 2) := by decide +kernel
theorem dX12_isPaired_231 : decode cX12_isPaired 231 = .ok (.aload_n 0, 1) := by decide +kernel
theorem dX12_isPaired_232 : decode cX12_isPaired 232 = .ok (.getfield 7, 3) := by decide +kernel
theorem dX12_isPaired_235 : decode cX12_isPaired 235 = .ok (.if_icmp .ge 46, 3) := by decide +kernel
theorem dX12_isPaired_238 : decode cX12_isPaired 238 = .ok (.aload_n 0, 1) := by decide +kernel
theorem dX12_isPaired_239 : decode cX12_isPaired 239 = .ok (.getfield 195, 3) := by decide +kernel
theorem dX12_isPaired_242 : decode cX12_isPaired 242 = .ok (.iload 6, 2) := by decide +kernel
theorem dX12_isPaired_244 : decode cX12_isPaired 244 = .ok (.iaload, 1) := by decide +kernel
theorem dX12_isPaired_245 : decode cX12_isPaired 245 = .ok (.iconst (-1), 1) := by decide +kernel
theorem dX12_isPaired_246 : decode cX12_isPaired 246 = .ok (.if_icmp .eq 35, 3) := by decide +kernel
theorem dX12_isPaired_249 : decode cX12_isPaired 249 = .ok (.aload_n 0, 1) := by decide +kernel
theorem dX12_isPaired_250 : decode cX12_isPaired 250 = .ok (.getfield 192, 3) := by decide +kernel
theorem dX12_isPaired_253 : decode cX12_isPaired 253 = .ok (.iload 5, 2) := by decide +kernel
theorem dX12_isPaired_255 : decode cX12_isPaired 255 = .ok (.iaload, 1) := by decide +kernel
theorem dX12_isPaired_256 : decode cX12_isPaired 256 = .ok (.iconst (-1), 1) := by decide +kernel
theorem dX12_isPaired_257 : decode cX12_isPaired 257 = .ok (.if_icmp .ne 24, 3) := by decide +kernel
theorem dX12_isPaired_260 : decode cX12_isPaired 260 = .ok (.aload_n 0, 1) := by decide +kernel
theorem dX12_isPaired_261 : decode cX12_isPaired 261 = .ok (.getfield 189, 3) := by decide +kernel
theorem dX12_isPaired_264 : decode cX12_isPaired 264 = .ok (.iload 4, 2) := by decide +kernel
theorem dX12_isPaired_266 : decode cX12_isPaired 266 = .ok (.baload, 1) := by decide +kernel
theorem dX12_isPaired_267 : decode cX12_isPaired 267 = .ok (.ifCond .eq 14, 3) := by decide +kernel
theorem dX12_isPaired_270 : decode cX12_isPaired 270 = .ok (.aload_n 0, 1) := by decide +kernel
theorem dX12_isPaired_271 : decode cX12_isPaired 271 = .ok (.getfield 192, 3) := by decide +kernel
theorem dX12_isPaired_274 : decode cX12_isPaired 274 = .ok (.iload 5, 2) := by decide +kernel
theorem dX12_isPaired_276 : decode cX12_isPaired 276 = .ok (.iload 6, 2) := by decide +kernel
theorem dX12_isPaired_278 : decode cX12_isPaired 278 = .ok (.iastore, 1) := by decide +kernel
theorem dX12_isPaired_279 : decode cX12_isPaired 279 = .ok (.iconst 1, 1) := by decide +kernel
theorem dX12_isPaired_280 : decode cX12_isPaired 280 = .ok (.istore_n 3, 1) := by decide +kernel
theorem dX12_isPaired_281 : decode cX12_isPaired 281 = .ok (.iinc 4 1, 3) := by decide +kernel
theorem dX12_isPaired_284 : decode cX12_isPaired 284 = .ok (.goto (-86), 3) := by decide +kernel
theorem dX12_isPaired_287 : decode cX12_isPaired 287 = .ok (.goto (-229), 3) := by decide +kernel
theorem dX12_isPaired_290 : decode cX12_isPaired 290 = .ok (.iload_n 2, 1) := by decide +kernel
theorem dX12_isPaired_291 : decode cX12_isPaired 291 = .ok (.istore 4, 2) := by decide +kernel
theorem dX12_isPaired_293 : decode cX12_isPaired 293 = .ok (.iload 4, 2) := by decide +kernel
theorem dX12_isPaired_295 : decode cX12_isPaired 295 = .ok (.iconst (-1), 1) := by decide +kernel
theorem dX12_isPaired_296 : decode cX12_isPaired 296 = .ok (.if_icmp .eq 74, 3) := by decide +kernel
theorem dX12_isPaired_299 : decode cX12_isPaired 299 = .ok (.aload_n 0, 1) := by decide +kernel
theorem dX12_isPaired_300 : decode cX12_isPaired 300 = .ok (.getfield 195, 3) := by decide +kernel
theorem dX12_isPaired_303 : decode cX12_isPaired 303 = .ok (.iload 4, 2) := by decide +kernel
theorem dX12_isPaired_305 : decode cX12_isPaired 305 = .ok (.iaload, 1) := by decide +kernel
theorem dX12_isPaired_306 : decode cX12_isPaired 306 = .ok (.istore 5, 2) := by decide +kernel
theorem dX12_isPaired_308 : decode cX12_isPaired 308 = .ok (.aload_n 0, 1) := by decide +kernel
theorem dX12_isPaired_309 : decode cX12_isPaired 309 = .ok (.getfield 189, 3) := by decide +kernel
theorem dX12_isPaired_312 : decode cX12_isPaired 312 = .ok (.bipush 8, 2) := by decide +kernel
theorem dX12_isPaired_314 : decode cX12_isPaired 314 = .ok (.iload 5, 2) := by decide +kernel
theorem dX12_isPaired_316 : decode cX12_isPaired 316 = .ok (.imul, 1) := by decide +kernel
theorem dX12_isPaired_317 : decode cX12_isPaired 317 = .ok (.iload 4, 2) := by decide +kernel
theorem dX12_isPaired_319 : decode cX12_isPaired 319 = .ok (.iadd, 1) := by decide +kernel
theorem dX12_isPaired_320 : decode cX12_isPaired 320 = .ok (.iconst 1, 1) := by decide +kernel
theorem dX12_isPaired_321 : decode cX12_isPaired 321 = .ok (.bastore, 1) := by decide +kernel
theorem dX12_isPaired_322 : decode cX12_isPaired 322 = .ok (.aload_n 0, 1) := by decide +kernel
theorem dX12_isPaired_323 : decode cX12_isPaired 323 = .ok (.getfield 192, 3) := by decide +kernel
theorem dX12_isPaired_326 : decode cX12_isPaired 326 = .ok (.iload 5, 2) := by decide +kernel
theorem dX12_isPaired_328 : decode cX12_isPaired 328 = .ok (.iaload, 1) := by decide +kernel
theorem dX12_isPaired_329 : decode cX12_isPaired 329 = .ok (.bipush 99, 2) := by decide +kernel
theorem dX12_isPaired_331 : decode cX12_isPaired 331 = .ok (.if_icmp .ne 7, 3) := by decide +kernel
theorem dX12_isPaired_334 : decode cX12_isPaired 334 = .ok (.iconst (-1), 1) := by decide +kernel
theorem dX12_isPaired_335 : decode cX12_isPaired 335 = .ok (.goto 10, 3) := by decide +kernel
theorem dX12_isPaired_338 : decode cX12_isPaired 338 = .ok (.aload_n 0, 1) := by decide +kernel
theorem dX12_isPaired_339 : decode cX12_isPaired 339 = .ok (.getfield 192, 3) := by decide +kernel
theorem dX12_isPaired_342 : decode cX12_isPaired 342 = .ok (.iload 5, 2) := by decide +kernel
theorem dX12_isPaired_344 : decode cX12_isPaired 344 = .ok (.iaload, 1) := by decide +kernel
theorem dX12_isPaired_345 : decode cX12_isPaired 345 = .ok (.istore 4, 2) := by decide +kernel
theorem dX12_isPaired_347 : decode cX12_isPaired 347 = .ok (.iload 4, 2) := by decide +kernel
theorem dX12_isPaired_349 : decode cX12_isPaired 349 = .ok (.iconst (-1), 1) := by decide +kernel
theorem dX12_isPaired_350 : decode cX12_isPaired 350 = .ok (.if_icmp .eq 17, 3) := by decide +kernel
theorem dX12_isPaired_353 : decode cX12_isPaired 353 = .ok (.aload_n 0, 1) := by decide +kernel
theorem dX12_isPaired_354 : decode cX12_isPaired 354 = .ok (.getfield 189, 3) := by decide +kernel
theorem dX12_isPaired_357 : decode cX12_isPaired 357 = .ok (.bipush 8, 2) := by decide +kernel
theorem dX12_isPaired_359 : decode cX12_isPaired 359 = .ok (.iload 5, 2) := by decide +kernel
theorem dX12_isPaired_361 : decode cX12_isPaired 361 = .ok (.imul, 1) := by decide +kernel
theorem dX12_isPaired_362 : decode cX12_isPaired 362 = .ok (.iload 4, 2) := by decide +kernel
theorem dX12_isPaired_364 : decode cX12_isPaired 364 = .ok (.iadd, 1) := by decide +kernel
theorem dX12_isPaired_365 : decode cX12_isPaired 365 = .ok (.iconst 0, 1) := by decide +kernel
theorem dX12_isPaired_366 : decode cX12_isPaired 366 = .ok (.bastore, 1) := by decide +kernel
theorem dX12_isPaired_367 : decode cX12_isPaired 367 = .ok (.goto (-74), 3) := by decide +kernel
theorem dX12_isPaired_370 : decode cX12_isPaired 370 = .ok (.iload_n 2, 1) := by decide +kernel
theorem dX12_isPaired_371 : decode cX12_isPaired 371 = .ok (.iconst (-1), 1) := by decide +kernel
theorem dX12_isPaired_372 : decode cX12_isPaired 372 = .ok (.if_icmp .eq 7, 3) := by decide +kernel
theorem dX12_isPaired_375 : decode cX12_isPaired 375 = .ok (.iconst 1, 1) := by decide +kernel
theorem dX12_isPaired_376 : decode cX12_isPaired 376 = .ok (.goto 4, 3) := by decide +kernel
theorem dX12_isPaired_379 : decode cX12_isPaired 379 = .ok (.iconst 0, 1) := by decide +kernel
theorem dX12_isPaired_380 : decode cX12_isPaired 380 = .ok (.ireturn, 1) := by decide +kernel
theorem dX12_places_0 : decode cX12_places 0 = .ok (.iconst 0, 1) := by decide +kernel
theorem dX12_places_1 : decode cX12_places 1 = .ok (.istore_n 1, 1) := by decide +kernel
theorem dX12_places_2 : decode cX12_places 2 = .ok (.iload_n 1, 1) := by decide +kernel
theorem dX12_places_3 : decode cX12_places 3 = .ok (.bipush 112, 2) := by decide +kernel
theorem dX12_places_5 : decode cX12_places 5 = .ok (.if_icmp .ge 16, 3) := by decide +kernel
theorem dX12_places_8 : decode cX12_places 8 = .ok (.aload_n 0, 1) := by decide +kernel
theorem dX12_places_9 : decode cX12_places 9 = .ok (.getfield 189, 3) := by decide +kernel
theorem dX12_places_12 : decode cX12_places 12 = .ok (.iload_n 1, 1) := by decide +kernel
theorem dX12_places_13 : decode cX12_places 13 = .ok (.iconst 0, 1) := by decide +kernel
theorem dX12_places_14 : decode cX12_places 14 = .ok (.bastore, 1) := by decide +kernel
theorem dX12_places_15 : decode cX12_places 15 = .ok (.iinc 1 1, 3) := by decide +kernel
