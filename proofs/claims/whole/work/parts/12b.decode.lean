theorem dX11_init_115 : decode cX11_init 115 = .ok (.invokestatic 78, 3) := by decide +kernel
theorem dX11_init_118 : decode cX11_init 118 = .ok (.aastore, 1) := by decide +kernel
theorem dX11_init_119 : decode cX11_init 119 = .ok (.aload_n 0, 1) := by decide +kernel
theorem dX11_init_120 : decode cX11_init 120 = .ok (.iconst 1, 1) := by decide +kernel
theorem dX11_init_121 : decode cX11_init 121 = .ok (.putfield 82, 3) := by decide +kernel
theorem dX11_init_124 : decode cX11_init 124 = .ok (.iconst 1, 1) := by decide +kernel
theorem dX11_init_125 : decode cX11_init 125 = .ok (.istore_n 1, 1) := by decide +kernel
theorem dX11_init_126 : decode cX11_init 126 = .ok (.iload_n 1, 1) := by decide +kernel
theorem dX11_init_127 : decode cX11_init 127 = .ok (.aload_n 0, 1) := by decide +kernel
theorem dX11_init_128 : decode cX11_init 128 = .ok (.getfield 29, 3) := by decide +kernel
theorem dX11_init_131 : decode cX11_init 131 = .ok (.arraylength, 1) := by decide +kernel
theorem dX11_init_132 : decode cX11_init 132 = .ok (.if_icmp .ge 22, 3) := by decide +kernel
theorem dX11_init_135 : decode cX11_init 135 = .ok (.aload_n 0, 1) := by decide +kernel
theorem dX11_init_136 : decode cX11_init 136 = .ok (.getfield 29, 3) := by decide +kernel
theorem dX11_init_139 : decode cX11_init 139 = .ok (.iload_n 1, 1) := by decide +kernel
theorem dX11_init_140 : decode cX11_init 140 = .ok (.new 27, 3) := by decide +kernel
theorem dX11_init_143 : decode cX11_init 143 = .ok (.dup, 1) := by decide +kernel
theorem dX11_init_144 : decode cX11_init 144 = .ok (.invokespecial 86, 3) := by decide +kernel
theorem dX11_init_147 : decode cX11_init 147 = .ok (.aastore, 1) := by decide +kernel
theorem dX11_init_148 : decode cX11_init 148 = .ok (.iinc 1 1, 3) := by decide +kernel
theorem dX11_init_151 : decode cX11_init 151 = .ok (.goto (-25), 3) := by decide +kernel
theorem dX11_init_154 : decode cX11_init 154 = .ok (.iconst 0, 1) := by decide +kernel
theorem dX11_init_155 : decode cX11_init 155 = .ok (.istore_n 1, 1) := by decide +kernel
theorem dX11_init_156 : decode cX11_init 156 = .ok (.iload_n 1, 1) := by decide +kernel
theorem dX11_init_157 : decode cX11_init 157 = .ok (.aload_n 0, 1) := by decide +kernel
theorem dX11_init_158 : decode cX11_init 158 = .ok (.getfield 35, 3) := by decide +kernel
theorem dX11_init_161 : decode cX11_init 161 = .ok (.arraylength, 1) := by decide +kernel
theorem dX11_init_162 : decode cX11_init 162 = .ok (.if_icmp .ge 22, 3) := by decide +kernel
theorem dX11_init_165 : decode cX11_init 165 = .ok (.aload_n 0, 1) := by decide +kernel
theorem dX11_init_166 : decode cX11_init 166 = .ok (.getfield 35, 3) := by decide +kernel
theorem dX11_init_169 : decode cX11_init 169 = .ok (.iload_n 1, 1) := by decide +kernel
theorem dX11_init_170 : decode cX11_init 170 = .ok (.new 33, 3) := by decide +kernel
theorem dX11_init_173 : decode cX11_init 173 = .ok (.dup, 1) := by decide +kernel
theorem dX11_init_174 : decode cX11_init 174 = .ok (.invokespecial 87, 3) := by decide +kernel
theorem dX11_init_177 : decode cX11_init 177 = .ok (.aastore, 1) := by decide +kernel
theorem dX11_init_178 : decode cX11_init 178 = .ok (.iinc 1 1, 3) := by decide +kernel
theorem dX11_init_181 : decode cX11_init 181 = .ok (.goto (-25), 3) := by decide +kernel
theorem dX11_init_184 : decode cX11_init 184 = .ok (.return_, 1) := by decide +kernel
theorem dX11_firstText_0 : decode cX11_firstText 0 = .ok (.new 39, 3) := by decide +kernel
theorem dX11_firstText_3 : decode cX11_firstText 3 = .ok (.dup, 1) := by decide +kernel
theorem dX11_firstText_4 : decode cX11_firstText 4 = .ok (.invokespecial 41, 3) := by decide +kernel
theorem dX11_firstText_7 : decode cX11_firstText 7 = .ok (.astore_n 0, 1) := by decide +kernel
theorem dX11_firstText_8 : decode cX11_firstText 8 = .ok (.aload_n 0, 1) := by decide +kernel
theorem dX11_firstText_9 : decode cX11_firstText 9 = .ok (.ldc 88, 2) := by decide +kernel
theorem dX11_firstText_11 : decode cX11_firstText 11 = .ok (.invokevirtual 90, 3) := by decide +kernel
theorem dX11_firstText_14 : decode cX11_firstText 14 = .ok (.new 27, 3) := by decide +kernel
theorem dX11_firstText_17 : decode cX11_firstText 17 = .ok (.dup, 1) := by decide +kernel
theorem dX11_firstText_18 : decode cX11_firstText 18 = .ok (.invokespecial 86, 3) := by decide +kernel
theorem dX11_firstText_21 : decode cX11_firstText 21 = .ok (.astore_n 1, 1) := by decide +kernel
theorem dX11_firstText_22 : decode cX11_firstText 22 = .ok (.new 46, 3) := by decide +kernel
theorem dX11_firstText_25 : decode cX11_firstText 25 = .ok (.dup, 1) := by decide +kernel
theorem dX11_firstText_26 : decode cX11_firstText 26 = .ok (.invokespecial 48, 3) := by decide +kernel
theorem dX11_firstText_29 : decode cX11_firstText 29 = .ok (.aload_n 0, 1) := by decide +kernel
theorem dX11_firstText_30 : decode cX11_firstText 30 = .ok (.aload_n 1, 1) := by decide +kernel
theorem dX11_firstText_31 : decode cX11_firstText 31 = .ok (.invokevirtual 94, 3) := by decide +kernel
theorem dX11_firstText_34 : decode cX11_firstText 34 = .ok (.pop, 1) := by decide +kernel
theorem dX11_firstText_35 : decode cX11_firstText 35 = .ok (.aload_n 1, 1) := by decide +kernel
theorem dX11_firstText_36 : decode cX11_firstText 36 = .ok (.areturn, 1) := by decide +kernel
theorem dX11_fund_0 : decode cX11_fund 0 = .ok (.iload_n 1, 1) := by decide +kernel
theorem dX11_fund_1 : decode cX11_fund 1 = .ok (.iconst 0, 1) := by decide +kernel
theorem dX11_fund_2 : decode cX11_fund 2 = .ok (.bipush 63, 2) := by decide +kernel
theorem dX11_fund_4 : decode cX11_fund 4 = .ok (.invokestatic 98, 3) := by decide +kernel
theorem dX11_fund_7 : decode cX11_fund 7 = .ok (.ifCond .ne 6, 3) := by decide +kernel
theorem dX11_fund_10 : decode cX11_fund 10 = .ok (.bipush (-2), 2) := by decide +kernel
theorem dX11_fund_12 : decode cX11_fund 12 = .ok (.ireturn, 1) := by decide +kernel
theorem dX11_fund_13 : decode cX11_fund 13 = .ok (.aload_n 0, 1) := by decide +kernel
theorem dX11_fund_14 : decode cX11_fund 14 = .ok (.getfield 102, 3) := by decide +kernel
theorem dX11_fund_17 : decode cX11_fund 17 = .ok (.aload_n 0, 1) := by decide +kernel
theorem dX11_fund_18 : decode cX11_fund 18 = .ok (.getfield 11, 3) := by decide +kernel
theorem dX11_fund_21 : decode cX11_fund 21 = .ok (.arraylength, 1) := by decide +kernel
theorem dX11_fund_22 : decode cX11_fund 22 = .ok (.if_icmp .lt 6, 3) := by decide +kernel
theorem dX11_fund_25 : decode cX11_fund 25 = .ok (.bipush (-4), 2) := by decide +kernel
theorem dX11_fund_27 : decode cX11_fund 27 = .ok (.ireturn, 1) := by decide +kernel
theorem dX11_fund_28 : decode cX11_fund 28 = .ok (.aload_n 0, 1) := by decide +kernel
theorem dX11_fund_29 : decode cX11_fund 29 = .ok (.getfield 11, 3) := by decide +kernel
theorem dX11_fund_32 : decode cX11_fund 32 = .ok (.aload_n 0, 1) := by decide +kernel
theorem dX11_fund_33 : decode cX11_fund 33 = .ok (.getfield 102, 3) := by decide +kernel
theorem dX11_fund_36 : decode cX11_fund 36 = .ok (.new 9, 3) := by decide +kernel
theorem dX11_fund_39 : decode cX11_fund 39 = .ok (.dup, 1) := by decide +kernel
theorem dX11_fund_40 : decode cX11_fund 40 = .ok (.iload_n 1, 1) := by decide +kernel
theorem dX11_fund_41 : decode cX11_fund 41 = .ok (.invokespecial 105, 3) := by decide +kernel
theorem dX11_fund_44 : decode cX11_fund 44 = .ok (.aastore, 1) := by decide +kernel
theorem dX11_fund_45 : decode cX11_fund 45 = .ok (.aload_n 0, 1) := by decide +kernel
theorem dX11_fund_46 : decode cX11_fund 46 = .ok (.dup, 1) := by decide +kernel
theorem dX11_fund_47 : decode cX11_fund 47 = .ok (.getfield 102, 3) := by decide +kernel
theorem dX11_fund_50 : decode cX11_fund 50 = .ok (.iconst 1, 1) := by decide +kernel
theorem dX11_fund_51 : decode cX11_fund 51 = .ok (.iadd, 1) := by decide +kernel
theorem dX11_fund_52 : decode cX11_fund 52 = .ok (.putfield 102, 3) := by decide +kernel
theorem dX11_fund_55 : decode cX11_fund 55 = .ok (.aload_n 0, 1) := by decide +kernel
theorem dX11_fund_56 : decode cX11_fund 56 = .ok (.getfield 102, 3) := by decide +kernel
theorem dX11_fund_59 : decode cX11_fund 59 = .ok (.iconst 1, 1) := by decide +kernel
theorem dX11_fund_60 : decode cX11_fund 60 = .ok (.isub, 1) := by decide +kernel
theorem dX11_fund_61 : decode cX11_fund 61 = .ok (.ireturn, 1) := by decide +kernel
theorem dX11_give_0 : decode cX11_give 0 = .ok (.aload_n 0, 1) := by decide +kernel
theorem dX11_give_1 : decode cX11_give 1 = .ok (.iload_n 1, 1) := by decide +kernel
theorem dX11_give_2 : decode cX11_give 2 = .ok (.invokevirtual 108, 3) := by decide +kernel
theorem dX11_give_5 : decode cX11_give 5 = .ok (.astore_n 3, 1) := by decide +kernel
theorem dX11_give_6 : decode cX11_give 6 = .ok (.aload_n 3, 1) := by decide +kernel
theorem dX11_give_7 : decode cX11_give 7 = .ok (.ifnull 13, 3) := by decide +kernel
theorem dX11_give_10 : decode cX11_give 10 = .ok (.iload_n 2, 1) := by decide +kernel
theorem dX11_give_11 : decode cX11_give 11 = .ok (.iconst 1, 1) := by decide +kernel
theorem dX11_give_12 : decode cX11_give 12 = .ok (.ldc 112, 2) := by decide +kernel
theorem dX11_give_14 : decode cX11_give 14 = .ok (.invokestatic 98, 3) := by decide +kernel
theorem dX11_give_17 : decode cX11_give 17 = .ok (.ifCond .ne 6, 3) := by decide +kernel
theorem dX11_give_20 : decode cX11_give 20 = .ok (.bipush (-2), 2) := by decide +kernel
theorem dX11_give_22 : decode cX11_give 22 = .ok (.ireturn, 1) := by decide +kernel
theorem dX11_give_23 : decode cX11_give 23 = .ok (.aload_n 3, 1) := by decide +kernel
theorem dX11_give_24 : decode cX11_give 24 = .ok (.getfield 113, 3) := by decide +kernel
theorem dX11_give_27 : decode cX11_give 27 = .ok (.iload_n 2, 1) := by decide +kernel
theorem dX11_give_28 : decode cX11_give 28 = .ok (.iadd, 1) := by decide +kernel
theorem dX11_give_29 : decode cX11_give 29 = .ok (.ldc 116, 2) := by decide +kernel
theorem dX11_give_31 : decode cX11_give 31 = .ok (.if_icmp .le 6, 3) := by decide +kernel
theorem dX11_give_34 : decode cX11_give 34 = .ok (.bipush (-4), 2) := by decide +kernel
theorem dX11_give_36 : decode cX11_give 36 = .ok (.ireturn, 1) := by decide +kernel
theorem dX11_give_37 : decode cX11_give 37 = .ok (.aload_n 3, 1) := by decide +kernel
theorem dX11_give_38 : decode cX11_give 38 = .ok (.iload_n 2, 1) := by decide +kernel
theorem dX11_give_39 : decode cX11_give 39 = .ok (.invokevirtual 117, 3) := by decide +kernel
theorem dX11_give_42 : decode cX11_give 42 = .ok (.aload_n 3, 1) := by decide +kernel
theorem dX11_give_43 : decode cX11_give 43 = .ok (.getfield 120, 3) := by decide +kernel
theorem dX11_give_46 : decode cX11_give 46 = .ok (.ireturn, 1) := by decide +kernel
theorem dX11_fundTold_0 : decode cX11_fundTold 0 = .ok (.aload_n 0, 1) := by decide +kernel
theorem dX11_fundTold_1 : decode cX11_fundTold 1 = .ok (.iload_n 1, 1) := by decide +kernel
theorem dX11_fundTold_2 : decode cX11_fundTold 2 = .ok (.invokevirtual 108, 3) := by decide +kernel
theorem dX11_fundTold_5 : decode cX11_fundTold 5 = .ok (.astore_n 3, 1) := by decide +kernel
theorem dX11_fundTold_6 : decode cX11_fundTold 6 = .ok (.aload_n 3, 1) := by decide +kernel
theorem dX11_fundTold_7 : decode cX11_fundTold 7 = .ok (.ifnonnull 6, 3) := by decide +kernel
theorem dX11_fundTold_10 : decode cX11_fundTold 10 = .ok (.bipush (-2), 2) := by decide +kernel
theorem dX11_fundTold_12 : decode cX11_fundTold 12 = .ok (.ireturn, 1) := by decide +kernel
theorem dX11_fundTold_13 : decode cX11_fundTold 13 = .ok (.iload_n 2, 1) := by decide +kernel
theorem dX11_fundTold_14 : decode cX11_fundTold 14 = .ok (.tableswitch 59 0 4 #[34, 39, 44, 49, 54], 34) := by decide +kernel
theorem dX11_fundTold_48 : decode cX11_fundTold 48 = .ok (.aload_n 3, 1) := by decide +kernel
theorem dX11_fundTold_49 : decode cX11_fundTold 49 = .ok (.getfield 123, 3) := by decide +kernel
theorem dX11_fundTold_52 : decode cX11_fundTold 52 = .ok (.ireturn, 1) := by decide +kernel
theorem dX11_fundTold_53 : decode cX11_fundTold 53 = .ok (.aload_n 3, 1) := by decide +kernel
theorem dX11_fundTold_54 : decode cX11_fundTold 54 = .ok (.getfield 113, 3) := by decide +kernel
theorem dX11_fundTold_57 : decode cX11_fundTold 57 = .ok (.ireturn, 1) := by decide +kernel
theorem dX11_fundTold_58 : decode cX11_fundTold 58 = .ok (.aload_n 3, 1) := by decide +kernel
theorem dX11_fundTold_59 : decode cX11_fundTold 59 = .ok (.getfield 120, 3) := by decide +kernel
theorem dX11_fundTold_62 : decode cX11_fundTold 62 = .ok (.ireturn, 1) := by decide +kernel
theorem dX11_fundTold_63 : decode cX11_fundTold 63 = .ok (.aload_n 3, 1) := by decide +kernel
theorem dX11_fundTold_64 : decode cX11_fundTold 64 = .ok (.getfield 126, 3) := by decide +kernel
theorem dX11_fundTold_67 : decode cX11_fundTold 67 = .ok (.ireturn, 1) := by decide +kernel
theorem dX11_fundTold_68 : decode cX11_fundTold 68 = .ok (.aload_n 3, 1) := by decide +kernel
theorem dX11_fundTold_69 : decode cX11_fundTold 69 = .ok (.getfield 129, 3) := by decide +kernel
theorem dX11_fundTold_72 : decode cX11_fundTold 72 = .ok (.ireturn, 1) := by decide +kernel
theorem dX11_fundTold_73 : decode cX11_fundTold 73 = .ok (.bipush (-2), 2) := by decide +kernel
theorem dX11_fundTold_75 : decode cX11_fundTold 75 = .ok (.ireturn, 1) := by decide +kernel
theorem dX11_reader_0 : decode cX11_reader 0 = .ok (.iload_n 1, 1) := by decide +kernel
theorem dX11_reader_1 : decode cX11_reader 1 = .ok (.iconst 0, 1) := by decide +kernel
theorem dX11_reader_2 : decode cX11_reader 2 = .ok (.bipush 63, 2) := by decide +kernel
theorem dX11_reader_4 : decode cX11_reader 4 = .ok (.invokestatic 98, 3) := by decide +kernel
theorem dX11_reader_7 : decode cX11_reader 7 = .ok (.ifCond .eq 27, 3) := by decide +kernel
theorem dX11_reader_10 : decode cX11_reader 10 = .ok (.iload_n 2, 1) := by decide +kernel
theorem dX11_reader_11 : decode cX11_reader 11 = .ok (.iconst 0, 1) := by decide +kernel
theorem dX11_reader_12 : decode cX11_reader 12 = .ok (.bipush 9, 2) := by decide +kernel
theorem dX11_reader_14 : decode cX11_reader 14 = .ok (.invokestatic 98, 3) := by decide +kernel
theorem dX11_reader_17 : decode cX11_reader 17 = .ok (.ifCond .eq 17, 3) := by decide +kernel
theorem dX11_reader_20 : decode cX11_reader 20 = .ok (.iload_n 3, 1) := by decide +kernel
theorem dX11_reader_21 : decode cX11_reader 21 = .ok (.iconst 1, 1) := by decide +kernel
theorem dX11_reader_22 : decode cX11_reader 22 = .ok (.bipush 6, 2) := by decide +kernel
theorem dX11_reader_24 : decode cX11_reader 24 = .ok (.invokestatic 98, 3) := by decide +kernel
theorem dX11_reader_27 : decode cX11_reader 27 = .ok (.ifCond .eq 7, 3) := by decide +kernel
theorem dX11_reader_30 : decode cX11_reader 30 = .ok (.iconst 1, 1) := by decide +kernel
theorem dX11_reader_31 : decode cX11_reader 31 = .ok (.goto 4, 3) := by decide +kernel
theorem dX11_reader_34 : decode cX11_reader 34 = .ok (.iconst 0, 1) := by decide +kernel
theorem dX11_reader_35 : decode cX11_reader 35 = .ok (.istore 4, 2) := by decide +kernel
theorem dX11_reader_37 : decode cX11_reader 37 = .ok (.iload 4, 2) := by decide +kernel
theorem dX11_reader_39 : decode cX11_reader 39 = .ok (.ifCond .ne 6, 3) := by decide +kernel
theorem dX11_reader_42 : decode cX11_reader 42 = .ok (.bipush (-2), 2) := by decide +kernel
theorem dX11_reader_44 : decode cX11_reader 44 = .ok (.ireturn, 1) := by decide +kernel
theorem dX11_reader_45 : decode cX11_reader 45 = .ok (.aload_n 0, 1) := by decide +kernel
theorem dX11_reader_46 : decode cX11_reader 46 = .ok (.getfield 132, 3) := by decide +kernel
theorem dX11_reader_49 : decode cX11_reader 49 = .ok (.aload_n 0, 1) := by decide +kernel
theorem dX11_reader_50 : decode cX11_reader 50 = .ok (.getfield 17, 3) := by decide +kernel
theorem dX11_reader_53 : decode cX11_reader 53 = .ok (.arraylength, 1) := by decide +kernel
theorem dX11_reader_54 : decode cX11_reader 54 = .ok (.if_icmp .lt 6, 3) := by decide +kernel
theorem dX11_reader_57 : decode cX11_reader 57 = .ok (.bipush (-4), 2) := by decide +kernel
theorem dX11_reader_59 : decode cX11_reader 59 = .ok (.ireturn, 1) := by decide +kernel
theorem dX11_reader_60 : decode cX11_reader 60 = .ok (.aload_n 0, 1) := by decide +kernel
theorem dX11_reader_61 : decode cX11_reader 61 = .ok (.getfield 17, 3) := by decide +kernel
theorem dX11_reader_64 : decode cX11_reader 64 = .ok (.aload_n 0, 1) := by decide +kernel
theorem dX11_reader_65 : decode cX11_reader 65 = .ok (.getfield 132, 3) := by decide +kernel
theorem dX11_reader_68 : decode cX11_reader 68 = .ok (.new 15, 3) := by decide +kernel
theorem dX11_reader_71 : decode cX11_reader 71 = .ok (.dup, 1) := by decide +kernel
theorem dX11_reader_72 : decode cX11_reader 72 = .ok (.aload_n 0, 1) := by decide +kernel
theorem dX11_reader_73 : decode cX11_reader 73 = .ok (.getfield 132, 3) := by decide +kernel
theorem dX11_reader_76 : decode cX11_reader 76 = .ok (.iload_n 1, 1) := by decide +kernel
theorem dX11_reader_77 : decode cX11_reader 77 = .ok (.iload_n 2, 1) := by decide +kernel
theorem dX11_reader_78 : decode cX11_reader 78 = .ok (.iload_n 3, 1) := by decide +kernel
theorem dX11_reader_79 : decode cX11_reader 79 = .ok (.invokespecial 135, 3) := by decide +kernel
theorem dX11_reader_82 : decode cX11_reader 82 = .ok (.aastore, 1) := by decide +kernel
theorem dX11_reader_83 : decode cX11_reader 83 = .ok (.aload_n 0, 1) := by decide +kernel
theorem dX11_reader_84 : decode cX11_reader 84 = .ok (.dup, 1) := by decide +kernel
theorem dX11_reader_85 : decode cX11_reader 85 = .ok (.getfield 132, 3) := by decide +kernel
theorem dX11_reader_88 : decode cX11_reader 88 = .ok (.iconst 1, 1) := by decide +kernel
theorem dX11_reader_89 : decode cX11_reader 89 = .ok (.iadd, 1) := by decide +kernel
theorem dX11_reader_90 : decode cX11_reader 90 = .ok (.putfield 132, 3) := by decide +kernel
theorem dX11_reader_93 : decode cX11_reader 93 = .ok (.aload_n 0, 1) := by decide +kernel
theorem dX11_reader_94 : decode cX11_reader 94 = .ok (.getfield 132, 3) := by decide +kernel
theorem dX11_reader_97 : decode cX11_reader 97 = .ok (.iconst 1, 1) := by decide +kernel
theorem dX11_reader_98 : decode cX11_reader 98 = .ok (.isub, 1) := by decide +kernel
theorem dX11_reader_99 : decode cX11_reader 99 = .ok (.ireturn, 1) := by decide +kernel
theorem dX11_readerTold_0 : decode cX11_readerTold 0 = .ok (.aload_n 0, 1) := by decide +kernel
theorem dX11_readerTold_1 : decode cX11_readerTold 1 = .ok (.iload_n 1, 1) := by decide +kernel
theorem dX11_readerTold_2 : decode cX11_readerTold 2 = .ok (.invokevirtual 138, 3) := by decide +kernel
theorem dX11_readerTold_5 : decode cX11_readerTold 5 = .ok (.astore_n 3, 1) := by decide +kernel
theorem dX11_readerTold_6 : decode cX11_readerTold 6 = .ok (.aload_n 3, 1) := by decide +kernel
theorem dX11_readerTold_7 : decode cX11_readerTold 7 = .ok (.ifnonnull 6, 3) := by decide +kernel
theorem dX11_readerTold_10 : decode cX11_readerTold 10 = .ok (.bipush (-2), 2) := by decide +kernel
theorem dX11_readerTold_12 : decode cX11_readerTold 12 = .ok (.ireturn, 1) := by decide +kernel
theorem dX11_readerTold_13 : decode cX11_readerTold 13 = .ok (.iload_n 2, 1) := by decide +kernel
theorem dX11_readerTold_14 : decode cX11_readerTold 14 = .ok (.tableswitch 60 0 4 #[34, 39, 44, 49, 54], 34) := by decide +kernel
theorem dX11_readerTold_48 : decode cX11_readerTold 48 = .ok (.aload_n 3, 1) := by decide +kernel
theorem dX11_readerTold_49 : decode cX11_readerTold 49 = .ok (.getfield 142, 3) := by decide +kernel
theorem dX11_readerTold_52 : decode cX11_readerTold 52 = .ok (.ireturn, 1) := by decide +kernel
theorem dX11_readerTold_53 : decode cX11_readerTold 53 = .ok (.aload_n 3, 1) := by decide +kernel
theorem dX11_readerTold_54 : decode cX11_readerTold 54 = .ok (.getfield 145, 3) := by decide +kernel
theorem dX11_readerTold_57 : decode cX11_readerTold 57 = .ok (.ireturn, 1) := by decide +kernel
theorem dX11_readerTold_58 : decode cX11_readerTold 58 = .ok (.aload_n 3, 1) := by decide +kernel
theorem dX11_readerTold_59 : decode cX11_readerTold 59 = .ok (.getfield 148, 3) := by decide +kernel
theorem dX11_readerTold_62 : decode cX11_readerTold 62 = .ok (.ireturn, 1) := by decide +kernel
theorem dX11_readerTold_63 : decode cX11_readerTold 63 = .ok (.aload_n 3, 1) := by decide +kernel
theorem dX11_readerTold_64 : decode cX11_readerTold 64 = .ok (.getfield 151, 3) := by decide +kernel
theorem dX11_readerTold_67 : decode cX11_readerTold 67 = .ok (.ireturn, 1) := by decide +kernel
theorem dX11_readerTold_68 : decode cX11_readerTold 68 = .ok (.aload_n 0, 1) := by decide +kernel
theorem dX11_readerTold_69 : decode cX11_readerTold 69 = .ok (.aload_n 3, 1) := by decide +kernel
theorem dX11_readerTold_70 : decode cX11_readerTold 70 = .ok (.invokevirtual 154, 3) := by decide +kernel
theorem dX11_readerTold_73 : decode cX11_readerTold 73 = .ok (.ireturn, 1) := by decide +kernel
theorem dX11_readerTold_74 : decode cX11_readerTold 74 = .ok (.bipush (-2), 2) := by decide +kernel
theorem dX11_readerTold_76 : decode cX11_readerTold 76 = .ok (.ireturn, 1) := by decide +kernel
theorem dX11_ask_0 : decode cX11_ask 0 = .ok (.iload_n 1, 1) := by decide +kernel
theorem dX11_ask_1 : decode cX11_ask 1 = .ok (.iconst 0, 1) := by decide +kernel
theorem dX11_ask_2 : decode cX11_ask 2 = .ok (.iconst 5, 1) := by decide +kernel
theorem dX11_ask_3 : decode cX11_ask 3 = .ok (.invokestatic 98, 3) := by decide +kernel
theorem dX11_ask_6 : decode cX11_ask 6 = .ok (.ifCond .eq 66, 3) := by decide +kernel
theorem dX11_ask_9 : decode cX11_ask 9 = .ok (.iload_n 2, 1) := by decide +kernel
theorem dX11_ask_10 : decode cX11_ask 10 = .ok (.iconst 0, 1) := by decide +kernel
theorem dX11_ask_11 : decode cX11_ask 11 = .ok (.bipush 9, 2) := by decide +kernel
theorem dX11_ask_13 : decode cX11_ask 13 = .ok (.invokestatic 98, 3) := by decide +kernel
theorem dX11_ask_16 : decode cX11_ask 16 = .ok (.ifCond .eq 56, 3) := by decide +kernel
theorem dX11_ask_19 : decode cX11_ask 19 = .ok (.iload_n 1, 1) := by decide +kernel
theorem dX11_ask_20 : decode cX11_ask 20 = .ok (.iconst 3, 1) := by decide +kernel
theorem dX11_ask_21 : decode cX11_ask 21 = .ok (.if_icmp .ne 13, 3) := by decide +kernel
theorem dX11_ask_24 : decode cX11_ask 24 = .ok (.iload_n 3, 1) := by decide +kernel
theorem dX11_ask_25 : decode cX11_ask 25 = .ok (.iconst 0, 1) := by decide +kernel
theorem dX11_ask_26 : decode cX11_ask 26 = .ok (.bipush 9, 2) := by decide +kernel
theorem dX11_ask_28 : decode cX11_ask 28 = .ok (.invokestatic 98, 3) := by decide +kernel
theorem dX11_ask_31 : decode cX11_ask 31 = .ok (.ifCond .eq 41, 3) := by decide +kernel
theorem dX11_ask_34 : decode cX11_ask 34 = .ok (.iload 4, 2) := by decide +kernel
theorem dX11_ask_36 : decode cX11_ask 36 = .ok (.iconst 0, 1) := by decide +kernel
theorem dX11_ask_37 : decode cX11_ask 37 = .ok (.iconst 5, 1) := by decide +kernel
theorem dX11_ask_38 : decode cX11_ask 38 = .ok (.invokestatic 98, 3) := by decide +kernel
theorem dX11_ask_41 : decode cX11_ask 41 = .ok (.ifCond .eq 31, 3) := by decide +kernel
theorem dX11_ask_44 : decode cX11_ask 44 = .ok (.iload 5, 2) := by decide +kernel
theorem dX11_ask_46 : decode cX11_ask 46 = .ok (.iconst 1, 1) := by decide +kernel
theorem dX11_ask_47 : decode cX11_ask 47 = .ok (.sipush 9999, 3) := by decide +kernel
theorem dX11_ask_50 : decode cX11_ask 50 = .ok (.invokestatic 98, 3) := by decide +kernel
theorem dX11_ask_53 : decode cX11_ask 53 = .ok (.ifCond .eq 19, 3) := by decide +kernel
theorem dX11_ask_56 : decode cX11_ask 56 = .ok (.iload 6, 2) := by decide +kernel
theorem dX11_ask_58 : decode cX11_ask 58 = .ok (.iconst 0, 1) := by decide +kernel
theorem dX11_ask_59 : decode cX11_ask 59 = .ok (.sipush 999, 3) := by decide +kernel
theorem dX11_ask_62 : decode cX11_ask 62 = .ok (.invokestatic 98, 3) := by decide +kernel
theorem dX11_ask_65 : decode cX11_ask 65 = .ok (.ifCond .eq 7, 3) := by decide +kernel
theorem dX11_ask_68 : decode cX11_ask 68 = .ok (.iconst 1, 1) := by decide +kernel
theorem dX11_ask_69 : decode cX11_ask 69 = .ok (.goto 4, 3) := by decide +kernel
theorem dX11_ask_72 : decode cX11_ask 72 = .ok (.iconst 0, 1) := by decide +kernel
theorem dX11_ask_73 : decode cX11_ask 73 = .ok (.istore 7, 2) := by decide +kernel
theorem dX11_ask_75 : decode cX11_ask 75 = .ok (.iload 7, 2) := by decide +kernel
theorem dX11_ask_77 : decode cX11_ask 77 = .ok (.ifCond .ne 6, 3) := by decide +kernel
theorem dX11_ask_80 : decode cX11_ask 80 = .ok (.bipush (-2), 2) := by decide +kernel
theorem dX11_ask_82 : decode cX11_ask 82 = .ok (.ireturn, 1) := by decide +kernel
theorem dX11_ask_83 : decode cX11_ask 83 = .ok (.aload_n 0, 1) := by decide +kernel
theorem dX11_ask_84 : decode cX11_ask 84 = .ok (.iload_n 1, 1) := by decide +kernel
theorem dX11_ask_85 : decode cX11_ask 85 = .ok (.iload 5, 2) := by decide +kernel
theorem dX11_ask_87 : decode cX11_ask 87 = .ok (.iload 4, 2) := by decide +kernel
theorem dX11_ask_89 : decode cX11_ask 89 = .ok (.iload 6, 2) := by decide +kernel
theorem dX11_ask_91 : decode cX11_ask 91 = .ok (.invokevirtual 158, 3) := by decide +kernel
theorem dX11_ask_94 : decode cX11_ask 94 = .ok (.aload_n 0, 1) := by decide +kernel
theorem dX11_ask_95 : decode cX11_ask 95 = .ok (.iconst 0, 1) := by decide +kernel
theorem dX11_ask_96 : decode cX11_ask 96 = .ok (.iconst 0, 1) := by decide +kernel
theorem dX11_ask_97 : decode cX11_ask 97 = .ok (.iconst 0, 1) := by decide +kernel
theorem dX11_ask_98 : decode cX11_ask 98 = .ok (.invokevirtual 161, 3) := by decide +kernel
theorem dX11_ask_101 : decode cX11_ask 101 = .ok (.aload_n 0, 1) := by decide +kernel
theorem dX11_ask_102 : decode cX11_ask 102 = .ok (.aload_n 0, 1) := by decide +kernel
theorem dX11_ask_103 : decode cX11_ask 103 = .ok (.getfield 165, 3) := by decide +kernel
theorem dX11_ask_106 : decode cX11_ask 106 = .ok (.iconst 0, 1) := by decide +kernel
theorem dX11_ask_107 : decode cX11_ask 107 = .ok (.invokevirtual 168, 3) := by decide +kernel
theorem dX11_ask_110 : decode cX11_ask 110 = .ok (.ifCond .ne 6, 3) := by decide +kernel
theorem dX11_ask_113 : decode cX11_ask 113 = .ok (.bipush (-3), 2) := by decide +kernel
theorem dX11_ask_115 : decode cX11_ask 115 = .ok (.ireturn, 1) := by decide +kernel
theorem dX11_ask_116 : decode cX11_ask 116 = .ok (.aload_n 0, 1) := by decide +kernel
theorem dX11_ask_117 : decode cX11_ask 117 = .ok (.getfield 172, 3) := by decide +kernel
theorem dX11_ask_120 : decode cX11_ask 120 = .ok (.aload_n 0, 1) := by decide +kernel
theorem dX11_ask_121 : decode cX11_ask 121 = .ok (.getfield 23, 3) := by decide +kernel
theorem dX11_ask_124 : decode cX11_ask 124 = .ok (.arraylength, 1) := by decide +kernel
theorem dX11_ask_125 : decode cX11_ask 125 = .ok (.if_icmp .lt 6, 3) := by decide +kernel
theorem dX11_ask_128 : decode cX11_ask 128 = .ok (.bipush (-4), 2) := by decide +kernel
theorem dX11_ask_130 : decode cX11_ask 130 = .ok (.ireturn, 1) := by decide +kernel
theorem dX11_ask_131 : decode cX11_ask 131 = .ok (.iload_n 1, 1) := by decide +kernel
theorem dX11_ask_132 : decode cX11_ask 132 = .ok (.iconst 3, 1) := by decide +kernel
theorem dX11_ask_133 : decode cX11_ask 133 = .ok (.if_icmp .ne 7, 3) := by decide +kernel
theorem dX11_ask_136 : decode cX11_ask 136 = .ok (.iload_n 3, 1) := by decide +kernel
theorem dX11_ask_137 : decode cX11_ask 137 = .ok (.goto 4, 3) := by decide +kernel
theorem dX11_ask_140 : decode cX11_ask 140 = .ok (.iconst (-1), 1) := by decide +kernel
theorem dX11_ask_141 : decode cX11_ask 141 = .ok (.istore 8, 2) := by decide +kernel
theorem dX11_ask_143 : decode cX11_ask 143 = .ok (.aload_n 0, 1) := by decide +kernel
theorem dX11_ask_144 : decode cX11_ask 144 = .ok (.getfield 23, 3) := by decide +kernel
theorem dX11_ask_147 : decode cX11_ask 147 = .ok (.aload_n 0, 1) := by decide +kernel
theorem dX11_ask_148 : decode cX11_ask 148 = .ok (.getfield 172, 3) := by decide +kernel
theorem dX11_ask_151 : decode cX11_ask 151 = .ok (.new 21, 3) := by decide +kernel
theorem dX11_ask_154 : decode cX11_ask 154 = .ok (.dup, 1) := by decide +kernel
theorem dX11_ask_155 : decode cX11_ask 155 = .ok (.iload_n 1, 1) := by decide +kernel
theorem dX11_ask_156 : decode cX11_ask 156 = .ok (.iload_n 2, 1) := by decide +kernel
theorem dX11_ask_157 : decode cX11_ask 157 = .ok (.iload 8, 2) := by decide +kernel
theorem dX11_ask_159 : decode cX11_ask 159 = .ok (.iload 4, 2) := by decide +kernel
theorem dX11_ask_161 : decode cX11_ask 161 = .ok (.iload 5, 2) := by decide +kernel
theorem dX11_ask_163 : decode cX11_ask 163 = .ok (.iload 6, 2) := by decide +kernel
theorem dX11_ask_165 : decode cX11_ask 165 = .ok (.aload_n 0, 1) := by decide +kernel
theorem dX11_ask_166 : decode cX11_ask 166 = .ok (.getfield 165, 3) := by decide +kernel
theorem dX11_ask_169 : decode cX11_ask 169 = .ok (.invokespecial 175, 3) := by decide +kernel
theorem dX11_ask_172 : decode cX11_ask 172 = .ok (.aastore, 1) := by decide +kernel
theorem dX11_ask_173 : decode cX11_ask 173 = .ok (.aload_n 0, 1) := by decide +kernel
theorem dX11_ask_174 : decode cX11_ask 174 = .ok (.dup, 1) := by decide +kernel
theorem dX11_ask_175 : decode cX11_ask 175 = .ok (.getfield 172, 3) := by decide +kernel
theorem dX11_ask_178 : decode cX11_ask 178 = .ok (.iconst 1, 1) := by decide +kernel
theorem dX11_ask_179 : decode cX11_ask 179 = .ok (.iadd, 1) := by decide +kernel
theorem dX11_ask_180 : decode cX11_ask 180 = .ok (.putfield 172, 3) := by decide +kernel
theorem dX11_ask_183 : decode cX11_ask 183 = .ok (.aload_n 0, 1) := by decide +kernel
theorem dX11_ask_184 : decode cX11_ask 184 = .ok (.getfield 172, 3) := by decide +kernel
theorem dX11_ask_187 : decode cX11_ask 187 = .ok (.iconst 1, 1) := by decide +kernel
theorem dX11_ask_188 : decode cX11_ask 188 = .ok (.isub, 1) := by decide +kernel
theorem dX11_ask_189 : decode cX11_ask 189 = .ok (.ireturn, 1) := by decide +kernel
theorem dX11_asks_0 : decode cX11_asks 0 = .ok (.iload_n 1, 1) := by decide +kernel
theorem dX11_asks_1 : decode cX11_asks 1 = .ok (.iconst 0, 1) := by decide +kernel
theorem dX11_asks_2 : decode cX11_asks 2 = .ok (.iconst 3, 1) := by decide +kernel
theorem dX11_asks_3 : decode cX11_asks 3 = .ok (.invokestatic 98, 3) := by decide +kernel
theorem dX11_asks_6 : decode cX11_asks 6 = .ok (.ifCond .eq 15, 3) := by decide +kernel
theorem dX11_asks_9 : decode cX11_asks 9 = .ok (.iload_n 2, 1) := by decide +kernel
theorem dX11_asks_10 : decode cX11_asks 10 = .ok (.invokestatic 178, 3) := by decide +kernel
theorem dX11_asks_13 : decode cX11_asks 13 = .ok (.ifCond .eq 8, 3) := by decide +kernel
theorem dX11_asks_16 : decode cX11_asks 16 = .ok (.iload 4, 2) := by decide +kernel
theorem dX11_asks_18 : decode cX11_asks 18 = .ok (.ifCond .ge 6, 3) := by decide +kernel
theorem dX11_asks_21 : decode cX11_asks 21 = .ok (.bipush (-2), 2) := by decide +kernel
theorem dX11_asks_23 : decode cX11_asks 23 = .ok (.ireturn, 1) := by decide +kernel
theorem dX11_asks_24 : decode cX11_asks 24 = .ok (.aload_n 0, 1) := by decide +kernel
theorem dX11_asks_25 : decode cX11_asks 25 = .ok (.getfield 35, 3) := by decide +kernel
theorem dX11_asks_28 : decode cX11_asks 28 = .ok (.iload_n 1, 1) := by decide +kernel
theorem dX11_asks_29 : decode cX11_asks 29 = .ok (.aaload, 1) := by decide +kernel
theorem dX11_asks_30 : decode cX11_asks 30 = .ok (.astore 5, 2) := by decide +kernel
theorem dX11_asks_32 : decode cX11_asks 32 = .ok (.aload 5, 2) := by decide +kernel
theorem dX11_asks_34 : decode cX11_asks 34 = .ok (.invokevirtual 182, 3) := by decide +kernel
theorem dX11_asks_37 : decode cX11_asks 37 = .ok (.ifCond .eq 6, 3) := by decide +kernel
theorem dX11_asks_40 : decode cX11_asks 40 = .ok (.bipush (-11), 2) := by decide +kernel
theorem dX11_asks_42 : decode cX11_asks 42 = .ok (.ireturn, 1) := by decide +kernel
theorem dX11_asks_43 : decode cX11_asks 43 = .ok (.aload 5, 2) := by decide +kernel
theorem dX11_asks_45 : decode cX11_asks 45 = .ok (.getfield 186, 3) := by decide +kernel
theorem dX11_asks_48 : decode cX11_asks 48 = .ok (.iload_n 2, 1) := by decide +kernel
theorem dX11_asks_49 : decode cX11_asks 49 = .ok (.if_icmp .eq 6, 3) := by decide +kernel
theorem dX11_asks_52 : decode cX11_asks 52 = .ok (.bipush (-13), 2) := by decide +kernel
theorem dX11_asks_54 : decode cX11_asks 54 = .ok (.ireturn, 1) := by decide +kernel
theorem dX11_asks_55 : decode cX11_asks 55 = .ok (.iconst 0, 1) := by decide +kernel
theorem dX11_asks_56 : decode cX11_asks 56 = .ok (.istore 6, 2) := by decide +kernel
theorem dX11_asks_58 : decode cX11_asks 58 = .ok (.iload_n 3, 1) := by decide +kernel
theorem dX11_asks_59 : decode cX11_asks 59 = .ok (.istore 7, 2) := by decide +kernel
theorem dX11_asks_61 : decode cX11_asks 61 = .ok (.iconst 0, 1) := by decide +kernel
theorem dX11_asks_62 : decode cX11_asks 62 = .ok (.istore 8, 2) := by decide +kernel
theorem dX11_asks_64 : decode cX11_asks 64 = .ok (.iload 8, 2) := by decide +kernel
theorem dX11_asks_66 : decode cX11_asks 66 = .ok (.iload 4, 2) := by decide +kernel
theorem dX11_asks_68 : decode cX11_asks 68 = .ok (.if_icmp .ge 106, 3) := by decide +kernel
theorem dX11_asks_71 : decode cX11_asks 71 = .ok (.aload 5, 2) := by decide +kernel
theorem dX11_asks_73 : decode cX11_asks 73 = .ok (.iload 7, 2) := by decide +kernel
theorem dX11_asks_75 : decode cX11_asks 75 = .ok (.invokevirtual 189, 3) := by decide +kernel
theorem dX11_asks_78 : decode cX11_asks 78 = .ok (.ifCond .eq 18, 3) := by decide +kernel
theorem dX11_asks_81 : decode cX11_asks 81 = .ok (.aload 5, 2) := by decide +kernel
theorem dX11_asks_83 : decode cX11_asks 83 = .ok (.iload 7, 2) := by decide +kernel
theorem dX11_asks_85 : decode cX11_asks 85 = .ok (.bipush 6, 2) := by decide +kernel
theorem dX11_asks_87 : decode cX11_asks 87 = .ok (.iadd, 1) := by decide +kernel
theorem dX11_asks_88 : decode cX11_asks 88 = .ok (.iconst 1, 1) := by decide +kernel
theorem dX11_asks_89 : decode cX11_asks 89 = .ok (.isub, 1) := by decide +kernel
theorem dX11_asks_90 : decode cX11_asks 90 = .ok (.invokevirtual 189, 3) := by decide +kernel
theorem dX11_asks_93 : decode cX11_asks 93 = .ok (.ifCond .ne 6, 3) := by decide +kernel
theorem dX11_asks_96 : decode cX11_asks 96 = .ok (.bipush (-12), 2) := by decide +kernel
theorem dX11_asks_98 : decode cX11_asks 98 = .ok (.ireturn, 1) := by decide +kernel
theorem dX11_asks_99 : decode cX11_asks 99 = .ok (.aload_n 0, 1) := by decide +kernel
theorem dX11_asks_100 : decode cX11_asks 100 = .ok (.aload 5, 2) := by decide +kernel
theorem dX11_asks_102 : decode cX11_asks 102 = .ok (.iload 7, 2) := by decide +kernel
theorem dX11_asks_104 : decode cX11_asks 104 = .ok (.invokevirtual 192, 3) := by decide +kernel
theorem dX11_asks_107 : decode cX11_asks 107 = .ok (.aload 5, 2) := by decide +kernel
theorem dX11_asks_109 : decode cX11_asks 109 = .ok (.iload 7, 2) := by decide +kernel
theorem dX11_asks_111 : decode cX11_asks 111 = .ok (.iconst 1, 1) := by decide +kernel
theorem dX11_asks_112 : decode cX11_asks 112 = .ok (.iadd, 1) := by decide +kernel
theorem dX11_asks_113 : decode cX11_asks 113 = .ok (.invokevirtual 192, 3) := by decide +kernel
theorem dX11_asks_116 : decode cX11_asks 116 = .ok (.aload 5, 2) := by decide +kernel
theorem dX11_asks_118 : decode cX11_asks 118 = .ok (.iload 7, 2) := by decide +kernel
theorem dX11_asks_120 : decode cX11_asks 120 = .ok (.iconst 2, 1) := by decide +kernel
theorem dX11_asks_121 : decode cX11_asks 121 = .ok (.iadd, 1) := by decide +kernel
theorem dX11_asks_122 : decode cX11_asks 122 = .ok (.invokevirtual 192, 3) := by decide +kernel
theorem dX11_asks_125 : decode cX11_asks 125 = .ok (.aload 5, 2) := by decide +kernel
theorem dX11_asks_127 : decode cX11_asks 127 = .ok (.iload 7, 2) := by decide +kernel
theorem dX11_asks_129 : decode cX11_asks 129 = .ok (.iconst 3, 1) := by decide +kernel
theorem dX11_asks_130 : decode cX11_asks 130 = .ok (.iadd, 1) := by decide +kernel
theorem dX11_asks_131 : decode cX11_asks 131 = .ok (.invokevirtual 192, 3) := by decide +kernel
theorem dX11_asks_134 : decode cX11_asks 134 = .ok (.aload 5, 2) := by decide +kernel
theorem dX11_asks_136 : decode cX11_asks 136 = .ok (.iload 7, 2) := by decide +kernel
theorem dX11_asks_138 : decode cX11_asks 138 = .ok (.iconst 4, 1) := by decide +kernel
theorem dX11_asks_139 : decode cX11_asks 139 = .ok (.iadd, 1) := by decide +kernel
theorem dX11_asks_140 : decode cX11_asks 140 = .ok (.invokevirtual 192, 3) := by decide +kernel
theorem dX11_asks_143 : decode cX11_asks 143 = .ok (.aload 5, 2) := by decide +kernel
theorem dX11_asks_145 : decode cX11_asks 145 = .ok (.iload 7, 2) := by decide +kernel
theorem dX11_asks_147 : decode cX11_asks 147 = .ok (.iconst 5, 1) := by decide +kernel
theorem dX11_asks_148 : decode cX11_asks 148 = .ok (.iadd, 1) := by decide +kernel
theorem dX11_asks_149 : decode cX11_asks 149 = .ok (.invokevirtual 192, 3) := by decide +kernel
theorem dX11_asks_152 : decode cX11_asks 152 = .ok (.invokevirtual 196, 3) := by decide +kernel
theorem dX11_asks_155 : decode cX11_asks 155 = .ok (.istore 9, 2) := by decide +kernel
theorem dX11_asks_157 : decode cX11_asks 157 = .ok (.iload 9, 2) := by decide +kernel
theorem dX11_asks_159 : decode cX11_asks 159 = .ok (.ifCond .lt 6, 3) := by decide +kernel
theorem dX11_asks_162 : decode cX11_asks 162 = .ok (.iinc 6 1, 3) := by decide +kernel
theorem dX11_asks_165 : decode cX11_asks 165 = .ok (.iinc 7 6, 3) := by decide +kernel
theorem dX11_asks_168 : decode cX11_asks 168 = .ok (.iinc 8 1, 3) := by decide +kernel
theorem dX11_asks_171 : decode cX11_asks 171 = .ok (.goto (-107), 3) := by decide +kernel
theorem dX11_asks_174 : decode cX11_asks 174 = .ok (.iload 6, 2) := by decide +kernel
theorem dX11_asks_176 : decode cX11_asks 176 = .ok (.ireturn, 1) := by decide +kernel
theorem dX11_told_0 : decode cX11_told 0 = .ok (.aload_n 0, 1) := by decide +kernel
theorem dX11_told_1 : decode cX11_told 1 = .ok (.iload_n 1, 1) := by decide +kernel
theorem dX11_told_2 : decode cX11_told 2 = .ok (.invokevirtual 200, 3) := by decide +kernel
theorem dX11_told_5 : decode cX11_told 5 = .ok (.astore_n 3, 1) := by decide +kernel
theorem dX11_told_6 : decode cX11_told 6 = .ok (.aload_n 3, 1) := by decide +kernel
theorem dX11_told_7 : decode cX11_told 7 = .ok (.ifnonnull 6, 3) := by decide +kernel
theorem dX11_told_10 : decode cX11_told 10 = .ok (.bipush (-2), 2) := by decide +kernel
theorem dX11_told_12 : decode cX11_told 12 = .ok (.ireturn, 1) := by decide +kernel
theorem dX11_told_13 : decode cX11_told 13 = .ok (.iload_n 2, 1) := by decide +kernel
theorem dX11_told_14 : decode cX11_told 14 = .ok (.tableswitch 99 0 8 #[50, 55, 60, 65, 70, 75, 80, 88, 93], 50) := by decide +kernel
theorem dX11_told_64 : decode cX11_told 64 = .ok (.aload_n 3, 1) := by decide +kernel
theorem dX11_told_65 : decode cX11_told 65 = .ok (.getfield 204, 3) := by decide +kernel
theorem dX11_told_68 : decode cX11_told 68 = .ok (.ireturn, 1) := by decide +kernel
theorem dX11_told_69 : decode cX11_told 69 = .ok (.aload_n 3, 1) := by decide +kernel
theorem dX11_told_70 : decode cX11_told 70 = .ok (.getfield 207, 3) := by decide +kernel
theorem dX11_told_73 : decode cX11_told 73 = .ok (.ireturn, 1) := by decide +kernel
theorem dX11_told_74 : decode cX11_told 74 = .ok (.aload_n 3, 1) := by decide +kernel
theorem dX11_told_75 : decode cX11_told 75 = .ok (.getfield 208, 3) := by decide +kernel
theorem dX11_told_78 : decode cX11_told 78 = .ok (.ireturn, 1) := by decide +kernel
theorem dX11_told_79 : decode cX11_told 79 = .ok (.aload_n 3, 1) := by decide +kernel
theorem dX11_told_80 : decode cX11_told 80 = .ok (.getfield 211, 3) := by decide +kernel
theorem dX11_told_83 : decode cX11_told 83 = .ok (.ireturn, 1) := by decide +kernel
theorem dX11_told_84 : decode cX11_told 84 = .ok (.aload_n 3, 1) := by decide +kernel
theorem dX11_told_85 : decode cX11_told 85 = .ok (.getfield 214, 3) := by decide +kernel
theorem dX11_told_88 : decode cX11_told 88 = .ok (.ireturn, 1) := by decide +kernel
theorem dX11_told_89 : decode cX11_told 89 = .ok (.aload_n 3, 1) := by decide +kernel
theorem dX11_told_90 : decode cX11_told 90 = .ok (.getfield 217, 3) := by decide +kernel
theorem dX11_told_93 : decode cX11_told 93 = .ok (.ireturn, 1) := by decide +kernel
theorem dX11_told_94 : decode cX11_told 94 = .ok (.aload_n 3, 1) := by decide +kernel
theorem dX11_told_95 : decode cX11_told 95 = .ok (.getfield 204, 3) := by decide +kernel
theorem dX11_told_98 : decode cX11_told 98 = .ok (.invokestatic 220, 3) := by decide +kernel
theorem dX11_told_101 : decode cX11_told 101 = .ok (.ireturn, 1) := by decide +kernel
theorem dX11_told_102 : decode cX11_told 102 = .ok (.aload_n 3, 1) := by decide +kernel
theorem dX11_told_103 : decode cX11_told 103 = .ok (.getfield 223, 3) := by decide +kernel
theorem dX11_told_106 : decode cX11_told 106 = .ok (.ireturn, 1) := by decide +kernel
theorem dX11_told_107 : decode cX11_told 107 = .ok (.aload_n 0, 1) := by decide +kernel
theorem dX11_told_108 : decode cX11_told 108 = .ok (.aload_n 3, 1) := by decide +kernel
theorem dX11_told_109 : decode cX11_told 109 = .ok (.invokevirtual 226, 3) := by decide +kernel
theorem dX11_told_112 : decode cX11_told 112 = .ok (.ireturn, 1) := by decide +kernel
theorem dX11_told_113 : decode cX11_told 113 = .ok (.aload_n 3, 1) := by decide +kernel
theorem dX11_told_114 : decode cX11_told 114 = .ok (.getfield 230, 3) := by decide +kernel
theorem dX11_told_117 : decode cX11_told 117 = .ok (.iload_n 2, 1) := by decide +kernel
theorem dX11_told_118 : decode cX11_told 118 = .ok (.invokestatic 234, 3) := by decide +kernel
theorem dX11_told_121 : decode cX11_told 121 = .ok (.ireturn, 1) := by decide +kernel
theorem dX11_grantTold_0 : decode cX11_grantTold 0 = .ok (.iload_n 1, 1) := by decide +kernel
theorem dX11_grantTold_1 : decode cX11_grantTold 1 = .ok (.tableswitch 83 9 12 #[31, 44, 57, 70], 31) := by decide +kernel
theorem dX11_grantTold_32 : decode cX11_grantTold 32 = .ok (.aload_n 0, 1) := by decide +kernel
theorem dX11_grantTold_33 : decode cX11_grantTold 33 = .ok (.ifnonnull 7, 3) := by decide +kernel
theorem dX11_grantTold_36 : decode cX11_grantTold 36 = .ok (.iconst (-1), 1) := by decide +kernel
theorem dX11_grantTold_37 : decode cX11_grantTold 37 = .ok (.goto 7, 3) := by decide +kernel
theorem dX11_grantTold_40 : decode cX11_grantTold 40 = .ok (.aload_n 0, 1) := by decide +kernel
theorem dX11_grantTold_41 : decode cX11_grantTold 41 = .ok (.getfield 238, 3) := by decide +kernel
theorem dX11_grantTold_44 : decode cX11_grantTold 44 = .ok (.ireturn, 1) := by decide +kernel
theorem dX11_grantTold_45 : decode cX11_grantTold 45 = .ok (.aload_n 0, 1) := by decide +kernel
theorem dX11_grantTold_46 : decode cX11_grantTold 46 = .ok (.ifnonnull 7, 3) := by decide +kernel
theorem dX11_grantTold_49 : decode cX11_grantTold 49 = .ok (.iconst 0, 1) := by decide +kernel
theorem dX11_grantTold_50 : decode cX11_grantTold 50 = .ok (.goto 7, 3) := by decide +kernel
theorem dX11_grantTold_53 : decode cX11_grantTold 53 = .ok (.aload_n 0, 1) := by decide +kernel
theorem dX11_grantTold_54 : decode cX11_grantTold 54 = .ok (.getfield 243, 3) := by decide +kernel
theorem dX11_grantTold_57 : decode cX11_grantTold 57 = .ok (.ireturn, 1) := by decide +kernel
theorem dX11_grantTold_58 : decode cX11_grantTold 58 = .ok (.aload_n 0, 1) := by decide +kernel
theorem dX11_grantTold_59 : decode cX11_grantTold 59 = .ok (.ifnonnull 7, 3) := by decide +kernel
theorem dX11_grantTold_62 : decode cX11_grantTold 62 = .ok (.iconst 0, 1) := by decide +kernel
theorem dX11_grantTold_63 : decode cX11_grantTold 63 = .ok (.goto 7, 3) := by decide +kernel
theorem dX11_grantTold_66 : decode cX11_grantTold 66 = .ok (.aload_n 0, 1) := by decide +kernel
theorem dX11_grantTold_67 : decode cX11_grantTold 67 = .ok (.getfield 246, 3) := by decide +kernel
theorem dX11_grantTold_70 : decode cX11_grantTold 70 = .ok (.ireturn, 1) := by decide +kernel
theorem dX11_grantTold_71 : decode cX11_grantTold 71 = .ok (.aload_n 0, 1) := by decide +kernel
theorem dX11_grantTold_72 : decode cX11_grantTold 72 = .ok (.ifnonnull 7, 3) := by decide +kernel
theorem dX11_grantTold_75 : decode cX11_grantTold 75 = .ok (.iconst 0, 1) := by decide +kernel
theorem dX11_grantTold_76 : decode cX11_grantTold 76 = .ok (.goto 7, 3) := by decide +kernel
theorem dX11_grantTold_79 : decode cX11_grantTold 79 = .ok (.aload_n 0, 1) := by decide +kernel
theorem dX11_grantTold_80 : decode cX11_grantTold 80 = .ok (.getfield 247, 3) := by decide +kernel
theorem dX11_grantTold_83 : decode cX11_grantTold 83 = .ok (.ireturn, 1) := by decide +kernel
theorem dX11_grantTold_84 : decode cX11_grantTold 84 = .ok (.bipush (-2), 2) := by decide +kernel
theorem dX11_grantTold_86 : decode cX11_grantTold 86 = .ok (.ireturn, 1) := by decide +kernel
theorem dX11_feed_0 : decode cX11_feed 0 = .ok (.iload_n 1, 1) := by decide +kernel
theorem dX11_feed_1 : decode cX11_feed 1 = .ok (.iconst 1, 1) := by decide +kernel
theorem dX11_feed_2 : decode cX11_feed 2 = .ok (.bipush 8, 2) := by decide +kernel
theorem dX11_feed_4 : decode cX11_feed 4 = .ok (.invokestatic 98, 3) := by decide +kernel
theorem dX11_feed_7 : decode cX11_feed 7 = .ok (.ifCond .ne 6, 3) := by decide +kernel
theorem dX11_feed_10 : decode cX11_feed 10 = .ok (.bipush (-2), 2) := by decide +kernel
theorem dX11_feed_12 : decode cX11_feed 12 = .ok (.ireturn, 1) := by decide +kernel
theorem dX11_feed_13 : decode cX11_feed 13 = .ok (.aload_n 0, 1) := by decide +kernel
theorem dX11_feed_14 : decode cX11_feed 14 = .ok (.getfield 42, 3) := by decide +kernel
theorem dX11_feed_17 : decode cX11_feed 17 = .ok (.getfield 248, 3) := by decide +kernel
theorem dX11_feed_20 : decode cX11_feed 20 = .ok (.iload_n 1, 1) := by decide +kernel
theorem dX11_feed_21 : decode cX11_feed 21 = .ok (.iadd, 1) := by decide +kernel
theorem dX11_feed_22 : decode cX11_feed 22 = .ok (.sipush 160, 3) := by decide +kernel
theorem dX11_feed_25 : decode cX11_feed 25 = .ok (.if_icmp .le 6, 3) := by decide +kernel
theorem dX11_feed_28 : decode cX11_feed 28 = .ok (.bipush (-4), 2) := by decide +kernel
theorem dX11_feed_30 : decode cX11_feed 30 = .ok (.ireturn, 1) := by decide +kernel
theorem dX11_feed_31 : decode cX11_feed 31 = .ok (.iconst 0, 1) := by decide +kernel
theorem dX11_feed_32 : decode cX11_feed 32 = .ok (.istore 4, 2) := by decide +kernel
theorem dX11_feed_34 : decode cX11_feed 34 = .ok (.iload 4, 2) := by decide +kernel
theorem dX11_feed_36 : decode cX11_feed 36 = .ok (.iload_n 1, 1) := by decide +kernel
theorem dX11_feed_37 : decode cX11_feed 37 = .ok (.if_icmp .ge 25, 3) := by decide +kernel
theorem dX11_feed_40 : decode cX11_feed 40 = .ok (.aload_n 0, 1) := by decide +kernel
theorem dX11_feed_41 : decode cX11_feed 41 = .ok (.getfield 42, 3) := by decide +kernel
theorem dX11_feed_44 : decode cX11_feed 44 = .ok (.lload_n 2, 1) := by decide +kernel
theorem dX11_feed_45 : decode cX11_feed 45 = .ok (.bipush 8, 2) := by decide +kernel
theorem dX11_feed_47 : decode cX11_feed 47 = .ok (.iload 4, 2) := by decide +kernel
theorem dX11_feed_49 : decode cX11_feed 49 = .ok (.imul, 1) := by decide +kernel
theorem dX11_feed_50 : decode cX11_feed 50 = .ok (.lshr, 1) := by decide +kernel
theorem dX11_feed_51 : decode cX11_feed 51 = .ok (.l2i, 1) := by decide +kernel
theorem dX11_feed_52 : decode cX11_feed 52 = .ok (.i2b, 1) := by decide +kernel
theorem dX11_feed_53 : decode cX11_feed 53 = .ok (.invokevirtual 251, 3) := by decide +kernel
theorem dX11_feed_56 : decode cX11_feed 56 = .ok (.iinc 4 1, 3) := by decide +kernel
theorem dX11_feed_59 : decode cX11_feed 59 = .ok (.goto (-25), 3) := by decide +kernel
theorem dX11_feed_62 : decode cX11_feed 62 = .ok (.aload_n 0, 1) := by decide +kernel
theorem dX11_feed_63 : decode cX11_feed 63 = .ok (.getfield 42, 3) := by decide +kernel
theorem dX11_feed_66 : decode cX11_feed 66 = .ok (.getfield 248, 3) := by decide +kernel
theorem dX11_feed_69 : decode cX11_feed 69 = .ok (.ireturn, 1) := by decide +kernel
theorem dX11_text_0 : decode cX11_text 0 = .ok (.aload_n 0, 1) := by decide +kernel
theorem dX11_text_1 : decode cX11_text 1 = .ok (.getfield 82, 3) := by decide +kernel
theorem dX11_text_4 : decode cX11_text 4 = .ok (.aload_n 0, 1) := by decide +kernel
theorem dX11_text_5 : decode cX11_text 5 = .ok (.getfield 29, 3) := by decide +kernel
theorem dX11_text_8 : decode cX11_text 8 = .ok (.arraylength, 1) := by decide +kernel
theorem dX11_text_9 : decode cX11_text 9 = .ok (.if_icmp .lt 6, 3) := by decide +kernel
theorem dX11_text_12 : decode cX11_text 12 = .ok (.bipush (-4), 2) := by decide +kernel
theorem dX11_text_14 : decode cX11_text 14 = .ok (.ireturn, 1) := by decide +kernel
theorem dX11_text_15 : decode cX11_text 15 = .ok (.aload_n 0, 1) := by decide +kernel
theorem dX11_text_16 : decode cX11_text 16 = .ok (.getfield 49, 3) := by decide +kernel
theorem dX11_text_19 : decode cX11_text 19 = .ok (.aload_n 0, 1) := by decide +kernel
theorem dX11_text_20 : decode cX11_text 20 = .ok (.getfield 42, 3) := by decide +kernel
theorem dX11_text_23 : decode cX11_text 23 = .ok (.aload_n 0, 1) := by decide +kernel
theorem dX11_text_24 : decode cX11_text 24 = .ok (.getfield 29, 3) := by decide +kernel
theorem dX11_text_27 : decode cX11_text 27 = .ok (.aload_n 0, 1) := by decide +kernel
theorem dX11_text_28 : decode cX11_text 28 = .ok (.getfield 82, 3) := by decide +kernel
theorem dX11_text_31 : decode cX11_text 31 = .ok (.aaload, 1) := by decide +kernel
theorem dX11_text_32 : decode cX11_text 32 = .ok (.invokevirtual 94, 3) := by decide +kernel
theorem dX11_text_35 : decode cX11_text 35 = .ok (.istore_n 1, 1) := by decide +kernel
theorem dX11_text_36 : decode cX11_text 36 = .ok (.aload_n 0, 1) := by decide +kernel
theorem dX11_text_37 : decode cX11_text 37 = .ok (.getfield 42, 3) := by decide +kernel
theorem dX11_text_40 : decode cX11_text 40 = .ok (.invokevirtual 255, 3) := by decide +kernel
theorem dX11_text_43 : decode cX11_text 43 = .ok (.iload_n 1, 1) := by decide +kernel
theorem dX11_text_44 : decode cX11_text 44 = .ok (.iconst (-1), 1) := by decide +kernel
theorem dX11_text_45 : decode cX11_text 45 = .ok (.if_icmp .eq 8, 3) := by decide +kernel
theorem dX11_text_48 : decode cX11_text 48 = .ok (.bipush (-100), 2) := by decide +kernel
theorem dX11_text_50 : decode cX11_text 50 = .ok (.iload_n 1, 1) := by decide +kernel
theorem dX11_text_51 : decode cX11_text 51 = .ok (.isub, 1) := by decide +kernel
theorem dX11_text_52 : decode cX11_text 52 = .ok (.ireturn, 1) := by decide +kernel
theorem dX11_text_53 : decode cX11_text 53 = .ok (.aload_n 0, 1) := by decide +kernel
theorem dX11_text_54 : decode cX11_text 54 = .ok (.dup, 1) := by decide +kernel
theorem dX11_text_55 : decode cX11_text 55 = .ok (.getfield 82, 3) := by decide +kernel
theorem dX11_text_58 : decode cX11_text 58 = .ok (.iconst 1, 1) := by decide +kernel
theorem dX11_text_59 : decode cX11_text 59 = .ok (.iadd, 1) := by decide +kernel
theorem dX11_text_60 : decode cX11_text 60 = .ok (.putfield 82, 3) := by decide +kernel
theorem dX11_text_63 : decode cX11_text 63 = .ok (.aload_n 0, 1) := by decide +kernel
theorem dX11_text_64 : decode cX11_text 64 = .ok (.getfield 82, 3) := by decide +kernel
theorem dX11_text_67 : decode cX11_text 67 = .ok (.iconst 1, 1) := by decide +kernel
theorem dX11_text_68 : decode cX11_text 68 = .ok (.isub, 1) := by decide +kernel
theorem dX11_text_69 : decode cX11_text 69 = .ok (.ireturn, 1) := by decide +kernel
theorem dX11_force_0 : decode cX11_force 0 = .ok (.iload_n 1, 1) := by decide +kernel
theorem dX11_force_1 : decode cX11_force 1 = .ok (.iconst 0, 1) := by decide +kernel
theorem dX11_force_2 : decode cX11_force 2 = .ok (.aload_n 0, 1) := by decide +kernel
theorem dX11_force_3 : decode cX11_force 3 = .ok (.getfield 82, 3) := by decide +kernel
theorem dX11_force_6 : decode cX11_force 6 = .ok (.iconst 1, 1) := by decide +kernel
theorem dX11_force_7 : decode cX11_force 7 = .ok (.isub, 1) := by decide +kernel
theorem dX11_force_8 : decode cX11_force 8 = .ok (.invokestatic 98, 3) := by decide +kernel
theorem dX11_force_11 : decode cX11_force 11 = .ok (.ifCond .ne 6, 3) := by decide +kernel
theorem dX11_force_14 : decode cX11_force 14 = .ok (.bipush (-2), 2) := by decide +kernel
theorem dX11_force_16 : decode cX11_force 16 = .ok (.ireturn, 1) := by decide +kernel
theorem dX11_force_17 : decode cX11_force 17 = .ok (.aload_n 0, 1) := by decide +kernel
theorem dX11_force_18 : decode cX11_force 18 = .ok (.getfield 165, 3) := by decide +kernel
theorem dX11_force_21 : decode cX11_force 21 = .ok (.istore_n 2, 1) := by decide +kernel
theorem dX11_force_22 : decode cX11_force 22 = .ok (.aload_n 0, 1) := by decide +kernel
theorem dX11_force_23 : decode cX11_force 23 = .ok (.iload_n 1, 1) := by decide +kernel
theorem dX11_force_24 : decode cX11_force 24 = .ok (.putfield 165, 3) := by decide +kernel
theorem dX11_force_27 : decode cX11_force 27 = .ok (.iload_n 2, 1) := by decide +kernel
theorem dX11_force_28 : decode cX11_force 28 = .ok (.ireturn, 1) := by decide +kernel
theorem dX11_says_0 : decode cX11_says 0 = .ok (.aload_n 0, 1) := by decide +kernel
theorem dX11_says_1 : decode cX11_says 1 = .ok (.iload_n 1, 1) := by decide +kernel
theorem dX11_says_2 : decode cX11_says 2 = .ok (.invokevirtual 200, 3) := by decide +kernel
theorem dX11_says_5 : decode cX11_says 5 = .ok (.astore 4, 2) := by decide +kernel
theorem dX11_says_7 : decode cX11_says 7 = .ok (.iload_n 2, 1) := by decide +kernel
theorem dX11_says_8 : decode cX11_says 8 = .ok (.iconst 0, 1) := by decide +kernel
theorem dX11_says_9 : decode cX11_says 9 = .ok (.iconst 2, 1) := by decide +kernel
theorem dX11_says_10 : decode cX11_says 10 = .ok (.invokestatic 98, 3) := by decide +kernel
theorem dX11_says_13 : decode cX11_says 13 = .ok (.ifCond .eq 18, 3) := by decide +kernel
theorem dX11_says_16 : decode cX11_says 16 = .ok (.iload_n 3, 1) := by decide +kernel
theorem dX11_says_17 : decode cX11_says 17 = .ok (.iconst 0, 1) := by decide +kernel
theorem dX11_says_18 : decode cX11_says 18 = .ok (.sipush 999, 3) := by decide +kernel
theorem dX11_says_21 : decode cX11_says 21 = .ok (.invokestatic 98, 3) := by decide +kernel
theorem dX11_says_24 : decode cX11_says 24 = .ok (.ifCond .eq 7, 3) := by decide +kernel
theorem dX11_says_27 : decode cX11_says 27 = .ok (.iconst 1, 1) := by decide +kernel
theorem dX11_says_28 : decode cX11_says 28 = .ok (.goto 4, 3) := by decide +kernel
theorem dX11_says_31 : decode cX11_says 31 = .ok (.iconst 0, 1) := by decide +kernel
theorem dX11_says_32 : decode cX11_says 32 = .ok (.istore 5, 2) := by decide +kernel
theorem dX11_says_34 : decode cX11_says 34 = .ok (.aload 4, 2) := by decide +kernel
theorem dX11_says_36 : decode cX11_says 36 = .ok (.ifnull 8, 3) := by decide +kernel
theorem dX11_says_39 : decode cX11_says 39 = .ok (.iload 5, 2) := by decide +kernel
theorem dX11_says_41 : decode cX11_says 41 = .ok (.ifCond .ne 7, 3) := by decide +kernel
theorem dX11_says_44 : decode cX11_says 44 = .ok (.ldc2_w 258, 3) := by decide +kernel
theorem dX11_says_47 : decode cX11_says 47 = .ok (.lreturn, 1) := by decide +kernel
theorem dX11_says_48 : decode cX11_says 48 = .ok (.aload_n 0, 1) := by decide +kernel
theorem dX11_says_49 : decode cX11_says 49 = .ok (.aload 4, 2) := by decide +kernel
theorem dX11_says_51 : decode cX11_says 51 = .ok (.iload_n 2, 1) := by decide +kernel
theorem dX11_says_52 : decode cX11_says 52 = .ok (.iload_n 2, 1) := by decide +kernel
theorem dX11_says_53 : decode cX11_says 53 = .ok (.iconst 2, 1) := by decide +kernel
theorem dX11_says_54 : decode cX11_says 54 = .ok (.if_icmp .ne 7, 3) := by decide +kernel
theorem dX11_says_57 : decode cX11_says 57 = .ok (.iload_n 3, 1) := by decide +kernel
theorem dX11_says_58 : decode cX11_says 58 = .ok (.goto 4, 3) := by decide +kernel
theorem dX11_says_61 : decode cX11_says 61 = .ok (.iconst 0, 1) := by decide +kernel
theorem dX11_says_62 : decode cX11_says 62 = .ok (.invokevirtual 260, 3) := by decide +kernel
theorem dX11_says_65 : decode cX11_says 65 = .ok (.i2l, 1) := by decide +kernel
theorem dX11_says_66 : decode cX11_says 66 = .ok (.lreturn, 1) := by decide +kernel
theorem dX11_bar_0 : decode cX11_bar 0 = .ok (.aload_n 0, 1) := by decide +kernel
theorem dX11_bar_1 : decode cX11_bar 1 = .ok (.iload_n 1, 1) := by decide +kernel
theorem dX11_bar_2 : decode cX11_bar 2 = .ok (.invokevirtual 138, 3) := by decide +kernel
theorem dX11_bar_5 : decode cX11_bar 5 = .ok (.astore_n 3, 1) := by decide +kernel
theorem dX11_bar_6 : decode cX11_bar 6 = .ok (.aload_n 0, 1) := by decide +kernel
theorem dX11_bar_7 : decode cX11_bar 7 = .ok (.iload_n 2, 1) := by decide +kernel
theorem dX11_bar_8 : decode cX11_bar 8 = .ok (.invokevirtual 200, 3) := by decide +kernel
theorem dX11_bar_11 : decode cX11_bar 11 = .ok (.astore 4, 2) := by decide +kernel
theorem dX11_bar_13 : decode cX11_bar 13 = .ok (.aload_n 3, 1) := by decide +kernel
theorem dX11_bar_14 : decode cX11_bar 14 = .ok (.ifnull 8, 3) := by decide +kernel
theorem dX11_bar_17 : decode cX11_bar 17 = .ok (.aload 4, 2) := by decide +kernel
theorem dX11_bar_19 : decode cX11_bar 19 = .ok (.ifnonnull 6, 3) := by decide +kernel
theorem dX11_bar_22 : decode cX11_bar 22 = .ok (.bipush (-2), 2) := by decide +kernel
theorem dX11_bar_24 : decode cX11_bar 24 = .ok (.ireturn, 1) := by decide +kernel
theorem dX11_bar_25 : decode cX11_bar 25 = .ok (.aload 4, 2) := by decide +kernel
theorem dX11_bar_27 : decode cX11_bar 27 = .ok (.getfield 264, 3) := by decide +kernel
theorem dX11_bar_30 : decode cX11_bar 30 = .ok (.aload_n 3, 1) := by decide +kernel
theorem dX11_bar_31 : decode cX11_bar 31 = .ok (.getfield 267, 3) := by decide +kernel
theorem dX11_bar_34 : decode cX11_bar 34 = .ok (.invokestatic 270, 3) := by decide +kernel
theorem dX11_bar_37 : decode cX11_bar 37 = .ok (.ifCond .eq 5, 3) := by decide +kernel
theorem dX11_bar_40 : decode cX11_bar 40 = .ok (.iconst 0, 1) := by decide +kernel
theorem dX11_bar_41 : decode cX11_bar 41 = .ok (.ireturn, 1) := by decide +kernel
theorem dX11_bar_42 : decode cX11_bar 42 = .ok (.aload 4, 2) := by decide +kernel
theorem dX11_bar_44 : decode cX11_bar 44 = .ok (.dup, 1) := by decide +kernel
theorem dX11_bar_45 : decode cX11_bar 45 = .ok (.getfield 264, 3) := by decide +kernel
theorem dX11_bar_48 : decode cX11_bar 48 = .ok (.iconst 1, 1) := by decide +kernel
theorem dX11_bar_49 : decode cX11_bar 49 = .ok (.aload_n 3, 1) := by decide +kernel
theorem dX11_bar_50 : decode cX11_bar 50 = .ok (.getfield 267, 3) := by decide +kernel
theorem dX11_bar_53 : decode cX11_bar 53 = .ok (.ishl, 1) := by decide +kernel
theorem dX11_bar_54 : decode cX11_bar 54 = .ok (.ior, 1) := by decide +kernel
theorem dX11_bar_55 : decode cX11_bar 55 = .ok (.putfield 264, 3) := by decide +kernel
theorem dX11_bar_58 : decode cX11_bar 58 = .ok (.iconst 1, 1) := by decide +kernel
theorem dX11_bar_59 : decode cX11_bar 59 = .ok (.ireturn, 1) := by decide +kernel
theorem dX11_barred_0 : decode cX11_barred 0 = .ok (.aload_n 0, 1) := by decide +kernel
theorem dX11_barred_1 : decode cX11_barred 1 = .ok (.iload_n 1, 1) := by decide +kernel
theorem dX11_barred_2 : decode cX11_barred 2 = .ok (.invokevirtual 138, 3) := by decide +kernel
theorem dX11_barred_5 : decode cX11_barred 5 = .ok (.astore_n 3, 1) := by decide +kernel
theorem dX11_barred_6 : decode cX11_barred 6 = .ok (.aload_n 0, 1) := by decide +kernel
theorem dX11_barred_7 : decode cX11_barred 7 = .ok (.iload_n 2, 1) := by decide +kernel
theorem dX11_barred_8 : decode cX11_barred 8 = .ok (.invokevirtual 200, 3) := by decide +kernel
theorem dX11_barred_11 : decode cX11_barred 11 = .ok (.astore 4, 2) := by decide +kernel
theorem dX11_barred_13 : decode cX11_barred 13 = .ok (.aload_n 3, 1) := by decide +kernel
theorem dX11_barred_14 : decode cX11_barred 14 = .ok (.ifnull 8, 3) := by decide +kernel
theorem dX11_barred_17 : decode cX11_barred 17 = .ok (.aload 4, 2) := by decide +kernel
theorem dX11_barred_19 : decode cX11_barred 19 = .ok (.ifnonnull 6, 3) := by decide +kernel
theorem dX11_barred_22 : decode cX11_barred 22 = .ok (.bipush (-2), 2) := by decide +kernel
theorem dX11_barred_24 : decode cX11_barred 24 = .ok (.ireturn, 1) := by decide +kernel
theorem dX11_barred_25 : decode cX11_barred 25 = .ok (.aload 4, 2) := by decide +kernel
theorem dX11_barred_27 : decode cX11_barred 27 = .ok (.aload_n 3, 1) := by decide +kernel
theorem dX11_barred_28 : decode cX11_barred 28 = .ok (.invokevirtual 274, 3) := by decide +kernel
theorem dX11_barred_31 : decode cX11_barred 31 = .ok (.ifCond .eq 7, 3) := by decide +kernel
theorem dX11_barred_34 : decode cX11_barred 34 = .ok (.iconst 1, 1) := by decide +kernel
theorem dX11_barred_35 : decode cX11_barred 35 = .ok (.goto 4, 3) := by decide +kernel
theorem dX11_barred_38 : decode cX11_barred 38 = .ok (.iconst 0, 1) := by decide +kernel
theorem dX11_barred_39 : decode cX11_barred 39 = .ok (.ireturn, 1) := by decide +kernel
theorem dX11_deal_0 : decode cX11_deal 0 = .ok (.iconst 0, 1) := by decide +kernel
theorem dX11_deal_1 : decode cX11_deal 1 = .ok (.istore_n 1, 1) := by decide +kernel
theorem dX11_deal_2 : decode cX11_deal 2 = .ok (.iconst 0, 1) := by decide +kernel
theorem dX11_deal_3 : decode cX11_deal 3 = .ok (.istore_n 2, 1) := by decide +kernel
theorem dX11_deal_4 : decode cX11_deal 4 = .ok (.iload_n 2, 1) := by decide +kernel
theorem dX11_deal_5 : decode cX11_deal 5 = .ok (.aload_n 0, 1) := by decide +kernel
theorem dX11_deal_6 : decode cX11_deal 6 = .ok (.getfield 172, 3) := by decide +kernel
theorem dX11_deal_9 : decode cX11_deal 9 = .ok (.if_icmp .ge 48, 3) := by decide +kernel
theorem dX11_deal_12 : decode cX11_deal 12 = .ok (.aload_n 0, 1) := by decide +kernel
theorem dX11_deal_13 : decode cX11_deal 13 = .ok (.getfield 23, 3) := by decide +kernel
theorem dX11_deal_16 : decode cX11_deal 16 = .ok (.iload_n 2, 1) := by decide +kernel
theorem dX11_deal_17 : decode cX11_deal 17 = .ok (.aaload, 1) := by decide +kernel
theorem dX11_deal_18 : decode cX11_deal 18 = .ok (.astore_n 3, 1) := by decide +kernel
theorem dX11_deal_19 : decode cX11_deal 19 = .ok (.aload_n 3, 1) := by decide +kernel
theorem dX11_deal_20 : decode cX11_deal 20 = .ok (.getfield 223, 3) := by decide +kernel
theorem dX11_deal_23 : decode cX11_deal 23 = .ok (.ifCond .ne 28, 3) := by decide +kernel
theorem dX11_deal_26 : decode cX11_deal 26 = .ok (.aload_n 0, 1) := by decide +kernel
theorem dX11_deal_27 : decode cX11_deal 27 = .ok (.aload_n 3, 1) := by decide +kernel
theorem dX11_deal_28 : decode cX11_deal 28 = .ok (.aload_n 0, 1) := by decide +kernel
theorem dX11_deal_29 : decode cX11_deal 29 = .ok (.aload_n 3, 1) := by decide +kernel
theorem dX11_deal_30 : decode cX11_deal 30 = .ok (.invokevirtual 278, 3) := by decide +kernel
theorem dX11_deal_33 : decode cX11_deal 33 = .ok (.invokevirtual 281, 3) := by decide +kernel
theorem dX11_deal_36 : decode cX11_deal 36 = .ok (.iload_n 1, 1) := by decide +kernel
theorem dX11_deal_37 : decode cX11_deal 37 = .ok (.aload_n 3, 1) := by decide +kernel
theorem dX11_deal_38 : decode cX11_deal 38 = .ok (.getfield 223, 3) := by decide +kernel
theorem dX11_deal_41 : decode cX11_deal 41 = .ok (.ifCond .ne 7, 3) := by decide +kernel
theorem dX11_deal_44 : decode cX11_deal 44 = .ok (.iconst 0, 1) := by decide +kernel
theorem dX11_deal_45 : decode cX11_deal 45 = .ok (.goto 4, 3) := by decide +kernel
theorem dX11_deal_48 : decode cX11_deal 48 = .ok (.iconst 1, 1) := by decide +kernel
theorem dX11_deal_49 : decode cX11_deal 49 = .ok (.iadd, 1) := by decide +kernel
theorem dX11_deal_50 : decode cX11_deal 50 = .ok (.istore_n 1, 1) := by decide +kernel
theorem dX11_deal_51 : decode cX11_deal 51 = .ok (.iinc 2 1, 3) := by decide +kernel
theorem dX11_deal_54 : decode cX11_deal 54 = .ok (.goto (-50), 3) := by decide +kernel
theorem dX11_deal_57 : decode cX11_deal 57 = .ok (.iload_n 1, 1) := by decide +kernel
theorem dX11_deal_58 : decode cX11_deal 58 = .ok (.ireturn, 1) := by decide +kernel
theorem dX11_pickReaders_0 : decode cX11_pickReaders 0 = .ok (.iconst 0, 1) := by decide +kernel
theorem dX11_pickReaders_1 : decode cX11_pickReaders 1 = .ok (.istore_n 2, 1) := by decide +kernel
theorem dX11_pickReaders_2 : decode cX11_pickReaders 2 = .ok (.aload_n 1, 1) := by decide +kernel
theorem dX11_pickReaders_3 : decode cX11_pickReaders 3 = .ok (.getfield 204, 3) := by decide +kernel
theorem dX11_pickReaders_6 : decode cX11_pickReaders 6 = .ok (.invokestatic 220, 3) := by decide +kernel
theorem dX11_pickReaders_9 : decode cX11_pickReaders 9 = .ok (.istore_n 3, 1) := by decide +kernel
theorem dX11_pickReaders_10 : decode cX11_pickReaders 10 = .ok (.iconst 0, 1) := by decide +kernel
theorem dX11_pickReaders_11 : decode cX11_pickReaders 11 = .ok (.istore 4, 2) := by decide +kernel
theorem dX11_pickReaders_13 : decode cX11_pickReaders 13 = .ok (.iload 4, 2) := by decide +kernel
theorem dX11_pickReaders_15 : decode cX11_pickReaders 15 = .ok (.iload_n 3, 1) := by decide +kernel
theorem dX11_pickReaders_16 : decode cX11_pickReaders 16 = .ok (.if_icmp .ge 122, 3) := by decide +kernel
theorem dX11_pickReaders_19 : decode cX11_pickReaders 19 = .ok (.aconst_null, 1) := by decide +kernel
theorem dX11_pickReaders_20 : decode cX11_pickReaders 20 = .ok (.astore 5, 2) := by decide +kernel
theorem dX11_pickReaders_22 : decode cX11_pickReaders 22 = .ok (.iconst 0, 1) := by decide +kernel
theorem dX11_pickReaders_23 : decode cX11_pickReaders 23 = .ok (.istore 6, 2) := by decide +kernel
theorem dX11_pickReaders_25 : decode cX11_pickReaders 25 = .ok (.iload 6, 2) := by decide +kernel
theorem dX11_pickReaders_27 : decode cX11_pickReaders 27 = .ok (.aload_n 0, 1) := by decide +kernel
theorem dX11_pickReaders_28 : decode cX11_pickReaders 28 = .ok (.getfield 132, 3) := by decide +kernel
theorem dX11_pickReaders_31 : decode cX11_pickReaders 31 = .ok (.if_icmp .ge 84, 3) := by decide +kernel
theorem dX11_pickReaders_34 : decode cX11_pickReaders 34 = .ok (.aload_n 0, 1) := by decide +kernel
theorem dX11_pickReaders_35 : decode cX11_pickReaders 35 = .ok (.getfield 17, 3) := by decide +kernel
theorem dX11_pickReaders_38 : decode cX11_pickReaders 38 = .ok (.iload 6, 2) := by decide +kernel
theorem dX11_pickReaders_40 : decode cX11_pickReaders 40 = .ok (.aaload, 1) := by decide +kernel
theorem dX11_pickReaders_41 : decode cX11_pickReaders 41 = .ok (.astore 7, 2) := by decide +kernel
theorem dX11_pickReaders_43 : decode cX11_pickReaders 43 = .ok (.iload_n 2, 1) := by decide +kernel
theorem dX11_pickReaders_44 : decode cX11_pickReaders 44 = .ok (.iload 6, 2) := by decide +kernel
theorem dX11_pickReaders_46 : decode cX11_pickReaders 46 = .ok (.invokestatic 270, 3) := by decide +kernel
theorem dX11_pickReaders_49 : decode cX11_pickReaders 49 = .ok (.ifCond .ne 29, 3) := by decide +kernel
theorem dX11_pickReaders_52 : decode cX11_pickReaders 52 = .ok (.aload 7, 2) := by decide +kernel
theorem dX11_pickReaders_54 : decode cX11_pickReaders 54 = .ok (.getfield 151, 3) := by decide +kernel
theorem dX11_pickReaders_57 : decode cX11_pickReaders 57 = .ok (.aload 7, 2) := by decide +kernel
theorem dX11_pickReaders_59 : decode cX11_pickReaders 59 = .ok (.getfield 148, 3) := by decide +kernel
theorem dX11_pickReaders_62 : decode cX11_pickReaders 62 = .ok (.if_icmp .ge 16, 3) := by decide +kernel
theorem dX11_pickReaders_65 : decode cX11_pickReaders 65 = .ok (.aload_n 1, 1) := by decide +kernel
theorem dX11_pickReaders_66 : decode cX11_pickReaders 66 = .ok (.aload 7, 2) := by decide +kernel
theorem dX11_pickReaders_68 : decode cX11_pickReaders 68 = .ok (.invokevirtual 274, 3) := by decide +kernel
theorem dX11_pickReaders_71 : decode cX11_pickReaders 71 = .ok (.ifCond .ne 7, 3) := by decide +kernel
theorem dX11_pickReaders_74 : decode cX11_pickReaders 74 = .ok (.iconst 1, 1) := by decide +kernel
theorem dX11_pickReaders_75 : decode cX11_pickReaders 75 = .ok (.goto 4, 3) := by decide +kernel
theorem dX11_pickReaders_78 : decode cX11_pickReaders 78 = .ok (.iconst 0, 1) := by decide +kernel
theorem dX11_pickReaders_79 : decode cX11_pickReaders 79 = .ok (.istore 8, 2) := by decide +kernel
theorem dX11_pickReaders_81 : decode cX11_pickReaders 81 = .ok (.iload 8, 2) := by decide +kernel
theorem dX11_pickReaders_83 : decode cX11_pickReaders 83 = .ok (.ifCond .eq 26, 3) := by decide +kernel
theorem dX11_pickReaders_86 : decode cX11_pickReaders 86 = .ok (.aload 5, 2) := by decide +kernel
theorem dX11_pickReaders_88 : decode cX11_pickReaders 88 = .ok (.ifnull 17, 3) := by decide +kernel
theorem dX11_pickReaders_91 : decode cX11_pickReaders 91 = .ok (.aload 7, 2) := by decide +kernel
theorem dX11_pickReaders_93 : decode cX11_pickReaders 93 = .ok (.aload 5, 2) := by decide +kernel
theorem dX11_pickReaders_95 : decode cX11_pickReaders 95 = .ok (.aload_n 1, 1) := by decide +kernel
theorem dX11_pickReaders_96 : decode cX11_pickReaders 96 = .ok (.getfield 211, 3) := by decide +kernel
theorem dX11_pickReaders_99 : decode cX11_pickReaders 99 = .ok (.invokevirtual 285, 3) := by decide +kernel
theorem dX11_pickReaders_102 : decode cX11_pickReaders 102 = .ok (.ifCond .eq 7, 3) := by decide +kernel
theorem dX11_pickReaders_105 : decode cX11_pickReaders 105 = .ok (.aload 7, 2) := by decide +kernel
theorem dX11_pickReaders_107 : decode cX11_pickReaders 107 = .ok (.astore 5, 2) := by decide +kernel
theorem dX11_pickReaders_109 : decode cX11_pickReaders 109 = .ok (.iinc 6 1, 3) := by decide +kernel
theorem dX11_pickReaders_112 : decode cX11_pickReaders 112 = .ok (.goto (-87), 3) := by decide +kernel
theorem dX11_pickReaders_115 : decode cX11_pickReaders 115 = .ok (.aload 5, 2) := by decide +kernel
theorem dX11_pickReaders_117 : decode cX11_pickReaders 117 = .ok (.ifnonnull 5, 3) := by decide +kernel
theorem dX11_pickReaders_120 : decode cX11_pickReaders 120 = .ok (.iconst 0, 1) := by decide +kernel
theorem dX11_pickReaders_121 : decode cX11_pickReaders 121 = .ok (.ireturn, 1) := by decide +kernel
theorem dX11_pickReaders_122 : decode cX11_pickReaders 122 = .ok (.iload_n 2, 1) := by decide +kernel
theorem dX11_pickReaders_123 : decode cX11_pickReaders 123 = .ok (.iconst 1, 1) := by decide +kernel
theorem dX11_pickReaders_124 : decode cX11_pickReaders 124 = .ok (.aload 5, 2) := by decide +kernel
theorem dX11_pickReaders_126 : decode cX11_pickReaders 126 = .ok (.getfield 267, 3) := by decide +kernel
theorem dX11_pickReaders_129 : decode cX11_pickReaders 129 = .ok (.ishl, 1) := by decide +kernel
theorem dX11_pickReaders_130 : decode cX11_pickReaders 130 = .ok (.ior, 1) := by decide +kernel
theorem dX11_pickReaders_131 : decode cX11_pickReaders 131 = .ok (.istore_n 2, 1) := by decide +kernel
theorem dX11_pickReaders_132 : decode cX11_pickReaders 132 = .ok (.iinc 4 1, 3) := by decide +kernel
theorem dX11_pickReaders_135 : decode cX11_pickReaders 135 = .ok (.goto (-122), 3) := by decide +kernel
theorem dX11_pickReaders_138 : decode cX11_pickReaders 138 = .ok (.iload_n 2, 1) := by decide +kernel
theorem dX11_pickReaders_139 : decode cX11_pickReaders 139 = .ok (.ireturn, 1) := by decide +kernel
theorem dX11_dealTo_0 : decode cX11_dealTo 0 = .ok (.aload_n 1, 1) := by decide +kernel
theorem dX11_dealTo_1 : decode cX11_dealTo 1 = .ok (.iload_n 2, 1) := by decide +kernel
theorem dX11_dealTo_2 : decode cX11_dealTo 2 = .ok (.putfield 223, 3) := by decide +kernel
theorem dX11_dealTo_5 : decode cX11_dealTo 5 = .ok (.iconst 0, 1) := by decide +kernel
theorem dX11_dealTo_6 : decode cX11_dealTo 6 = .ok (.istore_n 3, 1) := by decide +kernel
theorem dX11_dealTo_7 : decode cX11_dealTo 7 = .ok (.iload_n 3, 1) := by decide +kernel
theorem dX11_dealTo_8 : decode cX11_dealTo 8 = .ok (.aload_n 0, 1) := by decide +kernel
theorem dX11_dealTo_9 : decode cX11_dealTo 9 = .ok (.getfield 132, 3) := by decide +kernel
theorem dX11_dealTo_12 : decode cX11_dealTo 12 = .ok (.if_icmp .ge 32, 3) := by decide +kernel
theorem dX11_dealTo_15 : decode cX11_dealTo 15 = .ok (.iload_n 2, 1) := by decide +kernel
theorem dX11_dealTo_16 : decode cX11_dealTo 16 = .ok (.iload_n 3, 1) := by decide +kernel
theorem dX11_dealTo_17 : decode cX11_dealTo 17 = .ok (.invokestatic 270, 3) := by decide +kernel
theorem dX11_dealTo_20 : decode cX11_dealTo 20 = .ok (.ifCond .eq 18, 3) := by decide +kernel
theorem dX11_dealTo_23 : decode cX11_dealTo 23 = .ok (.aload_n 0, 1) := by decide +kernel
theorem dX11_dealTo_24 : decode cX11_dealTo 24 = .ok (.getfield 17, 3) := by decide +kernel
theorem dX11_dealTo_27 : decode cX11_dealTo 27 = .ok (.iload_n 3, 1) := by decide +kernel
theorem dX11_dealTo_28 : decode cX11_dealTo 28 = .ok (.aaload, 1) := by decide +kernel
theorem dX11_dealTo_29 : decode cX11_dealTo 29 = .ok (.dup, 1) := by decide +kernel
theorem dX11_dealTo_30 : decode cX11_dealTo 30 = .ok (.getfield 151, 3) := by decide +kernel
theorem dX11_dealTo_33 : decode cX11_dealTo 33 = .ok (.iconst 1, 1) := by decide +kernel
theorem dX11_dealTo_34 : decode cX11_dealTo 34 = .ok (.iadd, 1) := by decide +kernel
theorem dX11_dealTo_35 : decode cX11_dealTo 35 = .ok (.putfield 151, 3) := by decide +kernel
theorem dX11_dealTo_38 : decode cX11_dealTo 38 = .ok (.iinc 3 1, 3) := by decide +kernel
theorem dX11_dealTo_41 : decode cX11_dealTo 41 = .ok (.goto (-34), 3) := by decide +kernel
theorem dX11_dealTo_44 : decode cX11_dealTo 44 = .ok (.return_, 1) := by decide +kernel
theorem dX11_places_0 : decode cX11_places 0 = .ok (.aload_n 0, 1) := by decide +kernel
theorem dX11_places_1 : decode cX11_places 1 = .ok (.getfield 74, 3) := by decide +kernel
theorem dX11_places_4 : decode cX11_places 4 = .ok (.invokevirtual 289, 3) := by decide +kernel
theorem dX11_places_7 : decode cX11_places 7 = .ok (.iconst 0, 1) := by decide +kernel
theorem dX11_places_8 : decode cX11_places 8 = .ok (.istore_n 1, 1) := by decide +kernel
theorem dX11_places_9 : decode cX11_places 9 = .ok (.iload_n 1, 1) := by decide +kernel
theorem dX11_places_10 : decode cX11_places 10 = .ok (.aload_n 0, 1) := by decide +kernel
theorem dX11_places_11 : decode cX11_places 11 = .ok (.getfield 132, 3) := by decide +kernel
theorem dX11_places_14 : decode cX11_places 14 = .ok (.if_icmp .ge 25, 3) := by decide +kernel
theorem dX11_places_17 : decode cX11_places 17 = .ok (.aload_n 0, 1) := by decide +kernel
theorem dX11_places_18 : decode cX11_places 18 = .ok (.getfield 74, 3) := by decide +kernel
theorem dX11_places_21 : decode cX11_places 21 = .ok (.aload_n 0, 1) := by decide +kernel
theorem dX11_places_22 : decode cX11_places 22 = .ok (.getfield 17, 3) := by decide +kernel
theorem dX11_places_25 : decode cX11_places 25 = .ok (.iload_n 1, 1) := by decide +kernel
theorem dX11_places_26 : decode cX11_places 26 = .ok (.aaload, 1) := by decide +kernel
theorem dX11_places_27 : decode cX11_places 27 = .ok (.getfield 148, 3) := by decide +kernel
theorem dX11_places_30 : decode cX11_places 30 = .ok (.invokevirtual 290, 3) := by decide +kernel
theorem dX11_places_33 : decode cX11_places 33 = .ok (.iinc 1 1, 3) := by decide +kernel
theorem dX11_places_36 : decode cX11_places 36 = .ok (.goto (-27), 3) := by decide +kernel
theorem dX11_places_39 : decode cX11_places 39 = .ok (.iconst 0, 1) := by decide +kernel
theorem dX11_places_40 : decode cX11_places 40 = .ok (.istore_n 1, 1) := by decide +kernel
theorem dX11_places_41 : decode cX11_places 41 = .ok (.iload_n 1, 1) := by decide +kernel
theorem dX11_places_42 : decode cX11_places 42 = .ok (.aload_n 0, 1) := by decide +kernel
theorem dX11_places_43 : decode cX11_places 43 = .ok (.getfield 172, 3) := by decide +kernel
theorem dX11_places_46 : decode cX11_places 46 = .ok (.if_icmp .ge 71, 3) := by decide +kernel
theorem dX11_places_49 : decode cX11_places 49 = .ok (.iconst 0, 1) := by decide +kernel
theorem dX11_places_50 : decode cX11_places 50 = .ok (.istore_n 2, 1) := by decide +kernel
theorem dX11_places_51 : decode cX11_places 51 = .ok (.iconst 0, 1) := by decide +kernel
theorem dX11_places_52 : decode cX11_places 52 = .ok (.istore_n 3, 1) := by decide +kernel
theorem dX11_places_53 : decode cX11_places 53 = .ok (.iload_n 3, 1) := by decide +kernel
theorem dX11_places_54 : decode cX11_places 54 = .ok (.aload_n 0, 1) := by decide +kernel
theorem dX11_places_55 : decode cX11_places 55 = .ok (.getfield 132, 3) := by decide +kernel
theorem dX11_places_58 : decode cX11_places 58 = .ok (.if_icmp .ge 33, 3) := by decide +kernel
theorem dX11_places_61 : decode cX11_places 61 = .ok (.aload_n 0, 1) := by decide +kernel
theorem dX11_places_62 : decode cX11_places 62 = .ok (.getfield 23, 3) := by decide +kernel
theorem dX11_places_65 : decode cX11_places 65 = .ok (.iload_n 1, 1) := by decide +kernel
theorem dX11_places_66 : decode cX11_places 66 = .ok (.aaload, 1) := by decide +kernel
theorem dX11_places_67 : decode cX11_places 67 = .ok (.aload_n 0, 1) := by decide +kernel
theorem dX11_places_68 : decode cX11_places 68 = .ok (.getfield 17, 3) := by decide +kernel
theorem dX11_places_71 : decode cX11_places 71 = .ok (.iload_n 3, 1) := by decide +kernel
theorem dX11_places_72 : decode cX11_places 72 = .ok (.aaload, 1) := by decide +kernel
theorem dX11_places_73 : decode cX11_places 73 = .ok (.invokevirtual 274, 3) := by decide +kernel
theorem dX11_places_76 : decode cX11_places 76 = .ok (.ifCond .ne 9, 3) := by decide +kernel
theorem dX11_places_79 : decode cX11_places 79 = .ok (.iload_n 2, 1) := by decide +kernel
theorem dX11_places_80 : decode cX11_places 80 = .ok (.iconst 1, 1) := by decide +kernel
theorem dX11_places_81 : decode cX11_places 81 = .ok (.iload_n 3, 1) := by decide +kernel
theorem dX11_places_82 : decode cX11_places 82 = .ok (.ishl, 1) := by decide +kernel
theorem dX11_places_83 : decode cX11_places 83 = .ok (.ior, 1) := by decide +kernel
theorem dX11_places_84 : decode cX11_places 84 = .ok (.istore_n 2, 1) := by decide +kernel
theorem dX11_places_85 : decode cX11_places 85 = .ok (.iinc 3 1, 3) := by decide +kernel
theorem dX11_places_88 : decode cX11_places 88 = .ok (.goto (-35), 3) := by decide +kernel
theorem dX11_places_91 : decode cX11_places 91 = .ok (.aload_n 0, 1) := by decide +kernel
theorem dX11_places_92 : decode cX11_places 92 = .ok (.getfield 74, 3) := by decide +kernel
theorem dX11_places_95 : decode cX11_places 95 = .ok (.aload_n 0, 1) := by decide +kernel
theorem dX11_places_96 : decode cX11_places 96 = .ok (.getfield 23, 3) := by decide +kernel
theorem dX11_places_99 : decode cX11_places 99 = .ok (.iload_n 1, 1) := by decide +kernel
theorem dX11_places_100 : decode cX11_places 100 = .ok (.aaload, 1) := by decide +kernel
theorem dX11_places_101 : decode cX11_places 101 = .ok (.getfield 204, 3) := by decide +kernel
theorem dX11_places_104 : decode cX11_places 104 = .ok (.invokestatic 220, 3) := by decide +kernel
theorem dX11_places_107 : decode cX11_places 107 = .ok (.iload_n 2, 1) := by decide +kernel
theorem dX11_places_108 : decode cX11_places 108 = .ok (.invokevirtual 293, 3) := by decide +kernel
theorem dX11_places_111 : decode cX11_places 111 = .ok (.iinc 1 1, 3) := by decide +kernel
theorem dX11_places_114 : decode cX11_places 114 = .ok (.goto (-73), 3) := by decide +kernel
theorem dX11_places_117 : decode cX11_places 117 = .ok (.aload_n 0, 1) := by decide +kernel
theorem dX11_places_118 : decode cX11_places 118 = .ok (.getfield 74, 3) := by decide +kernel
theorem dX11_places_121 : decode cX11_places 121 = .ok (.invokevirtual 297, 3) := by decide +kernel
theorem dX11_places_124 : decode cX11_places 124 = .ok (.ireturn, 1) := by decide +kernel
theorem dX11_mark_0 : decode cX11_mark 0 = .ok (.aload_n 0, 1) := by decide +kernel
theorem dX11_mark_1 : decode cX11_mark 1 = .ok (.iload_n 1, 1) := by decide +kernel
theorem dX11_mark_2 : decode cX11_mark 2 = .ok (.invokevirtual 138, 3) := by decide +kernel
theorem dX11_mark_5 : decode cX11_mark 5 = .ok (.astore 4, 2) := by decide +kernel
theorem dX11_mark_7 : decode cX11_mark 7 = .ok (.aload_n 0, 1) := by decide +kernel
theorem dX11_mark_8 : decode cX11_mark 8 = .ok (.iload_n 2, 1) := by decide +kernel
theorem dX11_mark_9 : decode cX11_mark 9 = .ok (.invokevirtual 200, 3) := by decide +kernel
theorem dX11_mark_12 : decode cX11_mark 12 = .ok (.astore 5, 2) := by decide +kernel
theorem dX11_mark_14 : decode cX11_mark 14 = .ok (.aload 4, 2) := by decide +kernel
theorem dX11_mark_16 : decode cX11_mark 16 = .ok (.ifnull 18, 3) := by decide +kernel
theorem dX11_mark_19 : decode cX11_mark 19 = .ok (.aload 5, 2) := by decide +kernel
theorem dX11_mark_21 : decode cX11_mark 21 = .ok (.ifnull 13, 3) := by decide +kernel
theorem dX11_mark_24 : decode cX11_mark 24 = .ok (.iload_n 3, 1) := by decide +kernel
theorem dX11_mark_25 : decode cX11_mark 25 = .ok (.iconst 0, 1) := by decide +kernel
theorem dX11_mark_26 : decode cX11_mark 26 = .ok (.bipush 100, 2) := by decide +kernel
theorem dX11_mark_28 : decode cX11_mark 28 = .ok (.invokestatic 98, 3) := by decide +kernel
theorem dX11_mark_31 : decode cX11_mark 31 = .ok (.ifCond .ne 6, 3) := by decide +kernel
theorem dX11_mark_34 : decode cX11_mark 34 = .ok (.bipush (-2), 2) := by decide +kernel
theorem dX11_mark_36 : decode cX11_mark 36 = .ok (.ireturn, 1) := by decide +kernel
theorem dX11_mark_37 : decode cX11_mark 37 = .ok (.aload 5, 2) := by decide +kernel
theorem dX11_mark_39 : decode cX11_mark 39 = .ok (.getfield 223, 3) := by decide +kernel
theorem dX11_mark_42 : decode cX11_mark 42 = .ok (.aload 4, 2) := by decide +kernel
theorem dX11_mark_44 : decode cX11_mark 44 = .ok (.getfield 267, 3) := by decide +kernel
theorem dX11_mark_47 : decode cX11_mark 47 = .ok (.invokestatic 270, 3) := by decide +kernel
theorem dX11_mark_50 : decode cX11_mark 50 = .ok (.ifCond .eq 13, 3) := by decide +kernel
theorem dX11_mark_53 : decode cX11_mark 53 = .ok (.aload 5, 2) := by decide +kernel
theorem dX11_mark_55 : decode cX11_mark 55 = .ok (.aload 4, 2) := by decide +kernel
theorem dX11_mark_57 : decode cX11_mark 57 = .ok (.invokevirtual 274, 3) := by decide +kernel
theorem dX11_mark_60 : decode cX11_mark 60 = .ok (.ifCond .eq 6, 3) := by decide +kernel
theorem dX11_mark_63 : decode cX11_mark 63 = .ok (.bipush (-3), 2) := by decide +kernel
theorem dX11_mark_65 : decode cX11_mark 65 = .ok (.ireturn, 1) := by decide +kernel
theorem dX11_mark_66 : decode cX11_mark 66 = .ok (.aload 5, 2) := by decide +kernel
theorem dX11_mark_68 : decode cX11_mark 68 = .ok (.aload 4, 2) := by decide +kernel
theorem dX11_mark_70 : decode cX11_mark 70 = .ok (.iload_n 3, 1) := by decide +kernel
theorem dX11_mark_71 : decode cX11_mark 71 = .ok (.invokevirtual 301, 3) := by decide +kernel
theorem dX11_mark_74 : decode cX11_mark 74 = .ok (.aload_n 0, 1) := by decide +kernel
theorem dX11_mark_75 : decode cX11_mark 75 = .ok (.aload 5, 2) := by decide +kernel
theorem dX11_mark_77 : decode cX11_mark 77 = .ok (.invokevirtual 226, 3) := by decide +kernel
theorem dX11_mark_80 : decode cX11_mark 80 = .ok (.ireturn, 1) := by decide +kernel
theorem dX11_worth_0 : decode cX11_worth 0 = .ok (.aload_n 0, 1) := by decide +kernel
theorem dX11_worth_1 : decode cX11_worth 1 = .ok (.iload_n 1, 1) := by decide +kernel
theorem dX11_worth_2 : decode cX11_worth 2 = .ok (.invokevirtual 200, 3) := by decide +kernel
theorem dX11_worth_5 : decode cX11_worth 5 = .ok (.astore_n 3, 1) := by decide +kernel
theorem dX11_worth_6 : decode cX11_worth 6 = .ok (.aload_n 3, 1) := by decide +kernel
theorem dX11_worth_7 : decode cX11_worth 7 = .ok (.ifnull 12, 3) := by decide +kernel
theorem dX11_worth_10 : decode cX11_worth 10 = .ok (.iload_n 2, 1) := by decide +kernel
theorem dX11_worth_11 : decode cX11_worth 11 = .ok (.iconst 0, 1) := by decide +kernel
theorem dX11_worth_12 : decode cX11_worth 12 = .ok (.iconst 1, 1) := by decide +kernel
theorem dX11_worth_13 : decode cX11_worth 13 = .ok (.invokestatic 98, 3) := by decide +kernel
theorem dX11_worth_16 : decode cX11_worth 16 = .ok (.ifCond .ne 7, 3) := by decide +kernel
theorem dX11_worth_19 : decode cX11_worth 19 = .ok (.ldc2_w 258, 3) := by decide +kernel
theorem dX11_worth_22 : decode cX11_worth 22 = .ok (.lreturn, 1) := by decide +kernel
theorem dX11_worth_23 : decode cX11_worth 23 = .ok (.aload_n 0, 1) := by decide +kernel
theorem dX11_worth_24 : decode cX11_worth 24 = .ok (.aload_n 3, 1) := by decide +kernel
theorem dX11_worth_25 : decode cX11_worth 25 = .ok (.invokevirtual 305, 3) := by decide +kernel
theorem dX11_worth_28 : decode cX11_worth 28 = .ok (.aload_n 0, 1) := by decide +kernel
theorem dX11_worth_29 : decode cX11_worth 29 = .ok (.getfield 60, 3) := by decide +kernel
theorem dX11_worth_32 : decode cX11_worth 32 = .ok (.invokevirtual 309, 3) := by decide +kernel
theorem dX11_worth_35 : decode cX11_worth 35 = .ok (.ifCond .ne 7, 3) := by decide +kernel
theorem dX11_worth_38 : decode cX11_worth 38 = .ok (.ldc2_w 258, 3) := by decide +kernel
theorem dX11_worth_41 : decode cX11_worth 41 = .ok (.lreturn, 1) := by decide +kernel
theorem dX11_worth_42 : decode cX11_worth 42 = .ok (.iload_n 2, 1) := by decide +kernel
theorem dX11_worth_43 : decode cX11_worth 43 = .ok (.ifCond .ne 13, 3) := by decide +kernel
theorem dX11_worth_46 : decode cX11_worth 46 = .ok (.aload_n 0, 1) := by decide +kernel
theorem dX11_worth_47 : decode cX11_worth 47 = .ok (.getfield 60, 3) := by decide +kernel
theorem dX11_worth_50 : decode cX11_worth 50 = .ok (.getfield 312, 3) := by decide +kernel
theorem dX11_worth_53 : decode cX11_worth 53 = .ok (.goto 10, 3) := by decide +kernel
theorem dX11_worth_56 : decode cX11_worth 56 = .ok (.aload_n 0, 1) := by decide +kernel
theorem dX11_worth_57 : decode cX11_worth 57 = .ok (.getfield 60, 3) := by decide +kernel
theorem dX11_worth_60 : decode cX11_worth 60 = .ok (.getfield 316, 3) := by decide +kernel
theorem dX11_worth_63 : decode cX11_worth 63 = .ok (.lreturn, 1) := by decide +kernel
theorem dX11_fit_0 : decode cX11_fit 0 = .ok (.aload_n 0, 1) := by decide +kernel
theorem dX11_fit_1 : decode cX11_fit 1 = .ok (.iload_n 1, 1) := by decide +kernel
theorem dX11_fit_2 : decode cX11_fit 2 = .ok (.invokevirtual 108, 3) := by decide +kernel
theorem dX11_fit_5 : decode cX11_fit 5 = .ok (.astore_n 3, 1) := by decide +kernel
theorem dX11_fit_6 : decode cX11_fit 6 = .ok (.aload_n 0, 1) := by decide +kernel
theorem dX11_fit_7 : decode cX11_fit 7 = .ok (.iload_n 2, 1) := by decide +kernel
theorem dX11_fit_8 : decode cX11_fit 8 = .ok (.invokevirtual 200, 3) := by decide +kernel
theorem dX11_fit_11 : decode cX11_fit 11 = .ok (.astore 4, 2) := by decide +kernel
theorem dX11_fit_13 : decode cX11_fit 13 = .ok (.aload_n 3, 1) := by decide +kernel
theorem dX11_fit_14 : decode cX11_fit 14 = .ok (.ifnull 8, 3) := by decide +kernel
theorem dX11_fit_17 : decode cX11_fit 17 = .ok (.aload 4, 2) := by decide +kernel
theorem dX11_fit_19 : decode cX11_fit 19 = .ok (.ifnonnull 6, 3) := by decide +kernel
theorem dX11_fit_22 : decode cX11_fit 22 = .ok (.bipush (-2), 2) := by decide +kernel
theorem dX11_fit_24 : decode cX11_fit 24 = .ok (.ireturn, 1) := by decide +kernel
theorem dX11_fit_25 : decode cX11_fit 25 = .ok (.aload_n 0, 1) := by decide +kernel
theorem dX11_fit_26 : decode cX11_fit 26 = .ok (.aload_n 3, 1) := by decide +kernel
theorem dX11_fit_27 : decode cX11_fit 27 = .ok (.aload 4, 2) := by decide +kernel
theorem dX11_fit_29 : decode cX11_fit 29 = .ok (.invokevirtual 319, 3) := by decide +kernel
theorem dX11_fit_32 : decode cX11_fit 32 = .ok (.ifCond .eq 7, 3) := by decide +kernel
theorem dX11_fit_35 : decode cX11_fit 35 = .ok (.iconst 1, 1) := by decide +kernel
theorem dX11_fit_36 : decode cX11_fit 36 = .ok (.goto 4, 3) := by decide +kernel
theorem dX11_fit_39 : decode cX11_fit 39 = .ok (.iconst 0, 1) := by decide +kernel
theorem dX11_fit_40 : decode cX11_fit 40 = .ok (.ireturn, 1) := by decide +kernel
theorem dX11_choose_0 : decode cX11_choose 0 = .ok (.aload_n 0, 1) := by decide +kernel
theorem dX11_choose_1 : decode cX11_choose 1 = .ok (.iload_n 1, 1) := by decide +kernel
theorem dX11_choose_2 : decode cX11_choose 2 = .ok (.invokevirtual 108, 3) := by decide +kernel
theorem dX11_choose_5 : decode cX11_choose 5 = .ok (.astore_n 2, 1) := by decide +kernel
theorem dX11_choose_6 : decode cX11_choose 6 = .ok (.aload_n 2, 1) := by decide +kernel
theorem dX11_choose_7 : decode cX11_choose 7 = .ok (.ifnonnull 6, 3) := by decide +kernel
theorem dX11_choose_10 : decode cX11_choose 10 = .ok (.bipush (-2), 2) := by decide +kernel
theorem dX11_choose_12 : decode cX11_choose 12 = .ok (.ireturn, 1) := by decide +kernel
theorem dX11_choose_13 : decode cX11_choose 13 = .ok (.aload_n 0, 1) := by decide +kernel
theorem dX11_choose_14 : decode cX11_choose 14 = .ok (.getfield 67, 3) := by decide +kernel
theorem dX11_choose_17 : decode cX11_choose 17 = .ok (.aload_n 2, 1) := by decide +kernel
theorem dX11_choose_18 : decode cX11_choose 18 = .ok (.getfield 120, 3) := by decide +kernel
theorem dX11_choose_21 : decode cX11_choose 21 = .ok (.invokevirtual 323, 3) := by decide +kernel
theorem dX11_choose_24 : decode cX11_choose 24 = .ok (.iconst 0, 1) := by decide +kernel
theorem dX11_choose_25 : decode cX11_choose 25 = .ok (.istore_n 3, 1) := by decide +kernel
theorem dX11_choose_26 : decode cX11_choose 26 = .ok (.iload_n 3, 1) := by decide +kernel
theorem dX11_choose_27 : decode cX11_choose 27 = .ok (.aload_n 0, 1) := by decide +kernel
theorem dX11_choose_28 : decode cX11_choose 28 = .ok (.getfield 172, 3) := by decide +kernel
theorem dX11_choose_31 : decode cX11_choose 31 = .ok (.if_icmp .ge 57, 3) := by decide +kernel
theorem dX11_choose_34 : decode cX11_choose 34 = .ok (.aload_n 0, 1) := by decide +kernel
theorem dX11_choose_35 : decode cX11_choose 35 = .ok (.aload_n 2, 1) := by decide +kernel
theorem dX11_choose_36 : decode cX11_choose 36 = .ok (.aload_n 0, 1) := by decide +kernel
theorem dX11_choose_37 : decode cX11_choose 37 = .ok (.getfield 23, 3) := by decide +kernel
theorem dX11_choose_40 : decode cX11_choose 40 = .ok (.iload_n 3, 1) := by decide +kernel
theorem dX11_choose_41 : decode cX11_choose 41 = .ok (.aaload, 1) := by decide +kernel
theorem dX11_choose_42 : decode cX11_choose 42 = .ok (.invokevirtual 319, 3) := by decide +kernel
theorem dX11_choose_45 : decode cX11_choose 45 = .ok (.ifCond .eq 37, 3) := by decide +kernel
theorem dX11_choose_48 : decode cX11_choose 48 = .ok (.aload_n 0, 1) := by decide +kernel
theorem dX11_choose_49 : decode cX11_choose 49 = .ok (.aload_n 0, 1) := by decide +kernel
theorem dX11_choose_50 : decode cX11_choose 50 = .ok (.getfield 23, 3) := by decide +kernel
theorem dX11_choose_53 : decode cX11_choose 53 = .ok (.iload_n 3, 1) := by decide +kernel
theorem dX11_choose_54 : decode cX11_choose 54 = .ok (.aaload, 1) := by decide +kernel
theorem dX11_choose_55 : decode cX11_choose 55 = .ok (.invokevirtual 305, 3) := by decide +kernel
theorem dX11_choose_58 : decode cX11_choose 58 = .ok (.aload_n 0, 1) := by decide +kernel
theorem dX11_choose_59 : decode cX11_choose 59 = .ok (.getfield 67, 3) := by decide +kernel
theorem dX11_choose_62 : decode cX11_choose 62 = .ok (.iload_n 3, 1) := by decide +kernel
theorem dX11_choose_63 : decode cX11_choose 63 = .ok (.aload_n 0, 1) := by decide +kernel
theorem dX11_choose_64 : decode cX11_choose 64 = .ok (.getfield 23, 3) := by decide +kernel
theorem dX11_choose_67 : decode cX11_choose 67 = .ok (.iload_n 3, 1) := by decide +kernel
theorem dX11_choose_68 : decode cX11_choose 68 = .ok (.aaload, 1) := by decide +kernel
theorem dX11_choose_69 : decode cX11_choose 69 = .ok (.getfield 214, 3) := by decide +kernel
theorem dX11_choose_72 : decode cX11_choose 72 = .ok (.aload_n 0, 1) := by decide +kernel
theorem dX11_choose_73 : decode cX11_choose 73 = .ok (.getfield 60, 3) := by decide +kernel
theorem dX11_choose_76 : decode cX11_choose 76 = .ok (.invokevirtual 326, 3) := by decide +kernel
theorem dX11_choose_79 : decode cX11_choose 79 = .ok (.invokevirtual 329, 3) := by decide +kernel
theorem dX11_choose_82 : decode cX11_choose 82 = .ok (.iinc 3 1, 3) := by decide +kernel
theorem dX11_choose_85 : decode cX11_choose 85 = .ok (.goto (-59), 3) := by decide +kernel
theorem dX11_choose_88 : decode cX11_choose 88 = .ok (.aload_n 0, 1) := by decide +kernel
theorem dX11_choose_89 : decode cX11_choose 89 = .ok (.getfield 67, 3) := by decide +kernel
theorem dX11_choose_92 : decode cX11_choose 92 = .ok (.invokevirtual 331, 3) := by decide +kernel
theorem dX11_choose_95 : decode cX11_choose 95 = .ok (.ireturn, 1) := by decide +kernel
theorem dX11_grant_0 : decode cX11_grant 0 = .ok (.aload_n 0, 1) := by decide +kernel
theorem dX11_grant_1 : decode cX11_grant 1 = .ok (.iload_n 1, 1) := by decide +kernel
theorem dX11_grant_2 : decode cX11_grant 2 = .ok (.invokevirtual 108, 3) := by decide +kernel
theorem dX11_grant_5 : decode cX11_grant 5 = .ok (.astore 6, 2) := by decide +kernel
theorem dX11_grant_7 : decode cX11_grant 7 = .ok (.aload_n 0, 1) := by decide +kernel
theorem dX11_grant_8 : decode cX11_grant 8 = .ok (.iload_n 2, 1) := by decide +kernel
theorem dX11_grant_9 : decode cX11_grant 9 = .ok (.invokevirtual 200, 3) := by decide +kernel
theorem dX11_grant_12 : decode cX11_grant 12 = .ok (.astore 7, 2) := by decide +kernel
theorem dX11_grant_14 : decode cX11_grant 14 = .ok (.iload_n 3, 1) := by decide +kernel
theorem dX11_grant_15 : decode cX11_grant 15 = .ok (.iconst 1, 1) := by decide +kernel
theorem dX11_grant_16 : decode cX11_grant 16 = .ok (.iconst 4, 1) := by decide +kernel
theorem dX11_grant_17 : decode cX11_grant 17 = .ok (.invokestatic 98, 3) := by decide +kernel
theorem dX11_grant_20 : decode cX11_grant 20 = .ok (.ifCond .eq 30, 3) := by decide +kernel
theorem dX11_grant_23 : decode cX11_grant 23 = .ok (.iload 4, 2) := by decide +kernel
theorem dX11_grant_25 : decode cX11_grant 25 = .ok (.iconst 1, 1) := by decide +kernel
theorem dX11_grant_26 : decode cX11_grant 26 = .ok (.bipush 100, 2) := by decide +kernel
theorem dX11_grant_28 : decode cX11_grant 28 = .ok (.invokestatic 98, 3) := by decide +kernel
theorem dX11_grant_31 : decode cX11_grant 31 = .ok (.ifCond .eq 19, 3) := by decide +kernel
theorem dX11_grant_34 : decode cX11_grant 34 = .ok (.iload 5, 2) := by decide +kernel
theorem dX11_grant_36 : decode cX11_grant 36 = .ok (.iconst 0, 1) := by decide +kernel
theorem dX11_grant_37 : decode cX11_grant 37 = .ok (.sipush 999, 3) := by decide +kernel
theorem dX11_grant_40 : decode cX11_grant 40 = .ok (.invokestatic 98, 3) := by decide +kernel
theorem dX11_grant_43 : decode cX11_grant 43 = .ok (.ifCond .eq 7, 3) := by decide +kernel
theorem dX11_grant_46 : decode cX11_grant 46 = .ok (.iconst 1, 1) := by decide +kernel
theorem dX11_grant_47 : decode cX11_grant 47 = .ok (.goto 4, 3) := by decide +kernel
theorem dX11_grant_50 : decode cX11_grant 50 = .ok (.iconst 0, 1) := by decide +kernel
theorem dX11_grant_51 : decode cX11_grant 51 = .ok (.istore 8, 2) := by decide +kernel
theorem dX11_grant_53 : decode cX11_grant 53 = .ok (.aload 6, 2) := by decide +kernel
theorem dX11_grant_55 : decode cX11_grant 55 = .ok (.ifnull 13, 3) := by decide +kernel
theorem dX11_grant_58 : decode cX11_grant 58 = .ok (.aload 7, 2) := by decide +kernel
theorem dX11_grant_60 : decode cX11_grant 60 = .ok (.ifnull 8, 3) := by decide +kernel
theorem dX11_grant_63 : decode cX11_grant 63 = .ok (.iload 8, 2) := by decide +kernel
theorem dX11_grant_65 : decode cX11_grant 65 = .ok (.ifCond .ne 6, 3) := by decide +kernel
theorem dX11_grant_68 : decode cX11_grant 68 = .ok (.bipush (-2), 2) := by decide +kernel
theorem dX11_grant_70 : decode cX11_grant 70 = .ok (.ireturn, 1) := by decide +kernel
theorem dX11_grant_71 : decode cX11_grant 71 = .ok (.aload_n 0, 1) := by decide +kernel
theorem dX11_grant_72 : decode cX11_grant 72 = .ok (.aload 6, 2) := by decide +kernel
theorem dX11_grant_74 : decode cX11_grant 74 = .ok (.aload 7, 2) := by decide +kernel
theorem dX11_grant_76 : decode cX11_grant 76 = .ok (.invokevirtual 319, 3) := by decide +kernel
theorem dX11_grant_79 : decode cX11_grant 79 = .ok (.ifCond .eq 16, 3) := by decide +kernel
theorem dX11_grant_82 : decode cX11_grant 82 = .ok (.aload 7, 2) := by decide +kernel
theorem dX11_grant_84 : decode cX11_grant 84 = .ok (.getfield 214, 3) := by decide +kernel
theorem dX11_grant_87 : decode cX11_grant 87 = .ok (.aload 6, 2) := by decide +kernel
theorem dX11_grant_89 : decode cX11_grant 89 = .ok (.getfield 120, 3) := by decide +kernel
theorem dX11_grant_92 : decode cX11_grant 92 = .ok (.if_icmp .le 6, 3) := by decide +kernel
theorem dX11_grant_95 : decode cX11_grant 95 = .ok (.bipush (-3), 2) := by decide +kernel
theorem dX11_grant_97 : decode cX11_grant 97 = .ok (.ireturn, 1) := by decide +kernel
theorem dX11_grant_98 : decode cX11_grant 98 = .ok (.aload 7, 2) := by decide +kernel
theorem dX11_grant_100 : decode cX11_grant 100 = .ok (.new 239, 3) := by decide +kernel
theorem dX11_grant_103 : decode cX11_grant 103 = .ok (.dup, 1) := by decide +kernel
theorem dX11_grant_104 : decode cX11_grant 104 = .ok (.aload 6, 2) := by decide +kernel
theorem dX11_grant_106 : decode cX11_grant 106 = .ok (.iload_n 1, 1) := by decide +kernel
theorem dX11_grant_107 : decode cX11_grant 107 = .ok (.aload 7, 2) := by decide +kernel
theorem dX11_grant_109 : decode cX11_grant 109 = .ok (.getfield 214, 3) := by decide +kernel
theorem dX11_grant_112 : decode cX11_grant 112 = .ok (.iload_n 3, 1) := by decide +kernel
theorem dX11_grant_113 : decode cX11_grant 113 = .ok (.iload 4, 2) := by decide +kernel
theorem dX11_grant_115 : decode cX11_grant 115 = .ok (.iload 5, 2) := by decide +kernel
theorem dX11_grant_117 : decode cX11_grant 117 = .ok (.invokespecial 334, 3) := by decide +kernel
theorem dX11_grant_120 : decode cX11_grant 120 = .ok (.putfield 230, 3) := by decide +kernel
theorem dX11_grant_123 : decode cX11_grant 123 = .ok (.aload 6, 2) := by decide +kernel
theorem dX11_grant_125 : decode cX11_grant 125 = .ok (.aload 7, 2) := by decide +kernel
theorem dX11_grant_127 : decode cX11_grant 127 = .ok (.getfield 214, 3) := by decide +kernel
theorem dX11_grant_130 : decode cX11_grant 130 = .ok (.invokevirtual 337, 3) := by decide +kernel
theorem dX11_grant_133 : decode cX11_grant 133 = .ok (.aload 6, 2) := by decide +kernel
theorem dX11_grant_135 : decode cX11_grant 135 = .ok (.getfield 120, 3) := by decide +kernel
theorem dX11_grant_138 : decode cX11_grant 138 = .ok (.ireturn, 1) := by decide +kernel
theorem dX11_proof_0 : decode cX11_proof 0 = .ok (.aload_n 0, 1) := by decide +kernel
theorem dX11_proof_1 : decode cX11_proof 1 = .ok (.iload_n 1, 1) := by decide +kernel
theorem dX11_proof_2 : decode cX11_proof 2 = .ok (.invokevirtual 200, 3) := by decide +kernel
theorem dX11_proof_5 : decode cX11_proof 5 = .ok (.astore_n 3, 1) := by decide +kernel
theorem dX11_proof_6 : decode cX11_proof 6 = .ok (.aload_n 3, 1) := by decide +kernel
theorem dX11_proof_7 : decode cX11_proof 7 = .ok (.ifnull 14, 3) := by decide +kernel
theorem dX11_proof_10 : decode cX11_proof 10 = .ok (.iload_n 2, 1) := by decide +kernel
theorem dX11_proof_11 : decode cX11_proof 11 = .ok (.iconst 0, 1) := by decide +kernel
theorem dX11_proof_12 : decode cX11_proof 12 = .ok (.sipush 999, 3) := by decide +kernel
theorem dX11_proof_15 : decode cX11_proof 15 = .ok (.invokestatic 98, 3) := by decide +kernel
theorem dX11_proof_18 : decode cX11_proof 18 = .ok (.ifCond .ne 6, 3) := by decide +kernel
theorem dX11_proof_21 : decode cX11_proof 21 = .ok (.bipush (-2), 2) := by decide +kernel
theorem dX11_proof_23 : decode cX11_proof 23 = .ok (.ireturn, 1) := by decide +kernel
theorem dX11_proof_24 : decode cX11_proof 24 = .ok (.aload_n 3, 1) := by decide +kernel
theorem dX11_proof_25 : decode cX11_proof 25 = .ok (.getfield 230, 3) := by decide +kernel
theorem dX11_proof_28 : decode cX11_proof 28 = .ok (.astore 4, 2) := by decide +kernel
theorem dX11_proof_30 : decode cX11_proof 30 = .ok (.aload 4, 2) := by decide +kernel
theorem dX11_proof_32 : decode cX11_proof 32 = .ok (.ifnull 11, 3) := by decide +kernel
theorem dX11_proof_35 : decode cX11_proof 35 = .ok (.aload 4, 2) := by decide +kernel
theorem dX11_proof_37 : decode cX11_proof 37 = .ok (.invokevirtual 340, 3) := by decide +kernel
theorem dX11_proof_40 : decode cX11_proof 40 = .ok (.ifCond .ne 6, 3) := by decide +kernel
theorem dX11_proof_43 : decode cX11_proof 43 = .ok (.bipush (-3), 2) := by decide +kernel
theorem dX11_proof_45 : decode cX11_proof 45 = .ok (.ireturn, 1) := by decide +kernel
theorem dX11_proof_46 : decode cX11_proof 46 = .ok (.aload 4, 2) := by decide +kernel
theorem dX11_proof_48 : decode cX11_proof 48 = .ok (.invokevirtual 343, 3) := by decide +kernel
theorem dX11_proof_51 : decode cX11_proof 51 = .ok (.istore 5, 2) := by decide +kernel
theorem dX11_proof_53 : decode cX11_proof 53 = .ok (.aload_n 0, 1) := by decide +kernel
theorem dX11_proof_54 : decode cX11_proof 54 = .ok (.aload_n 3, 1) := by decide +kernel
theorem dX11_proof_55 : decode cX11_proof 55 = .ok (.aload 4, 2) := by decide +kernel
theorem dX11_proof_57 : decode cX11_proof 57 = .ok (.iload_n 2, 1) := by decide +kernel
theorem dX11_proof_58 : decode cX11_proof 58 = .ok (.invokevirtual 346, 3) := by decide +kernel
theorem dX11_proof_61 : decode cX11_proof 61 = .ok (.istore 6, 2) := by decide +kernel
theorem dX11_proof_63 : decode cX11_proof 63 = .ok (.aload 4, 2) := by decide +kernel
theorem dX11_proof_65 : decode cX11_proof 65 = .ok (.iload 6, 2) := by decide +kernel
theorem dX11_proof_67 : decode cX11_proof 67 = .ok (.invokevirtual 350, 3) := by decide +kernel
theorem dX11_proof_70 : decode cX11_proof 70 = .ok (.iload 5, 2) := by decide +kernel
theorem dX11_proof_72 : decode cX11_proof 72 = .ok (.iload 6, 2) := by decide +kernel
theorem dX11_proof_74 : decode cX11_proof 74 = .ok (.isub, 1) := by decide +kernel
theorem dX11_proof_75 : decode cX11_proof 75 = .ok (.ireturn, 1) := by decide +kernel
theorem dX11_due_0 : decode cX11_due 0 = .ok (.aload_n 0, 1) := by decide +kernel
theorem dX11_due_1 : decode cX11_due 1 = .ok (.iload_n 1, 1) := by decide +kernel
theorem dX11_due_2 : decode cX11_due 2 = .ok (.invokevirtual 200, 3) := by decide +kernel
theorem dX11_due_5 : decode cX11_due 5 = .ok (.astore_n 3, 1) := by decide +kernel
theorem dX11_due_6 : decode cX11_due 6 = .ok (.aload_n 3, 1) := by decide +kernel
theorem dX11_due_7 : decode cX11_due 7 = .ok (.ifnull 14, 3) := by decide +kernel
theorem dX11_due_10 : decode cX11_due 10 = .ok (.iload_n 2, 1) := by decide +kernel
theorem dX11_due_11 : decode cX11_due 11 = .ok (.iconst 0, 1) := by decide +kernel
theorem dX11_due_12 : decode cX11_due 12 = .ok (.sipush 999, 3) := by decide +kernel
theorem dX11_due_15 : decode cX11_due 15 = .ok (.invokestatic 98, 3) := by decide +kernel
theorem dX11_due_18 : decode cX11_due 18 = .ok (.ifCond .ne 6, 3) := by decide +kernel
theorem dX11_due_21 : decode cX11_due 21 = .ok (.bipush (-2), 2) := by decide +kernel
theorem dX11_due_23 : decode cX11_due 23 = .ok (.ireturn, 1) := by decide +kernel
theorem dX11_due_24 : decode cX11_due 24 = .ok (.aload_n 3, 1) := by decide +kernel
theorem dX11_due_25 : decode cX11_due 25 = .ok (.getfield 230, 3) := by decide +kernel
theorem dX11_due_28 : decode cX11_due 28 = .ok (.astore 4, 2) := by decide +kernel
theorem dX11_due_30 : decode cX11_due 30 = .ok (.aload 4, 2) := by decide +kernel
theorem dX11_due_32 : decode cX11_due 32 = .ok (.ifnull 11, 3) := by decide +kernel
theorem dX11_due_35 : decode cX11_due 35 = .ok (.aload 4, 2) := by decide +kernel
theorem dX11_due_37 : decode cX11_due 37 = .ok (.invokevirtual 340, 3) := by decide +kernel
theorem dX11_due_40 : decode cX11_due 40 = .ok (.ifCond .ne 6, 3) := by decide +kernel
theorem dX11_due_43 : decode cX11_due 43 = .ok (.bipush (-3), 2) := by decide +kernel
theorem dX11_due_45 : decode cX11_due 45 = .ok (.ireturn, 1) := by decide +kernel
theorem dX11_due_46 : decode cX11_due 46 = .ok (.aload 4, 2) := by decide +kernel
theorem dX11_due_48 : decode cX11_due 48 = .ok (.invokevirtual 343, 3) := by decide +kernel
theorem dX11_due_51 : decode cX11_due 51 = .ok (.aload_n 0, 1) := by decide +kernel
theorem dX11_due_52 : decode cX11_due 52 = .ok (.aload_n 3, 1) := by decide +kernel
theorem dX11_due_53 : decode cX11_due 53 = .ok (.aload 4, 2) := by decide +kernel
theorem dX11_due_55 : decode cX11_due 55 = .ok (.iload_n 2, 1) := by decide +kernel
theorem dX11_due_56 : decode cX11_due 56 = .ok (.invokevirtual 346, 3) := by decide +kernel
theorem dX11_due_59 : decode cX11_due 59 = .ok (.isub, 1) := by decide +kernel
theorem dX11_due_60 : decode cX11_due 60 = .ok (.ireturn, 1) := by decide +kernel
theorem dX11_stop_0 : decode cX11_stop 0 = .ok (.aload_n 0, 1) := by decide +kernel
theorem dX11_stop_1 : decode cX11_stop 1 = .ok (.iload_n 1, 1) := by decide +kernel
theorem dX11_stop_2 : decode cX11_stop 2 = .ok (.invokevirtual 200, 3) := by decide +kernel
theorem dX11_stop_5 : decode cX11_stop 5 = .ok (.astore_n 2, 1) := by decide +kernel
theorem dX11_stop_6 : decode cX11_stop 6 = .ok (.aload_n 2, 1) := by decide +kernel
theorem dX11_stop_7 : decode cX11_stop 7 = .ok (.ifnonnull 6, 3) := by decide +kernel
theorem dX11_stop_10 : decode cX11_stop 10 = .ok (.bipush (-2), 2) := by decide +kernel
theorem dX11_stop_12 : decode cX11_stop 12 = .ok (.ireturn, 1) := by decide +kernel
theorem dX11_stop_13 : decode cX11_stop 13 = .ok (.aload_n 2, 1) := by decide +kernel
theorem dX11_stop_14 : decode cX11_stop 14 = .ok (.getfield 230, 3) := by decide +kernel
theorem dX11_stop_17 : decode cX11_stop 17 = .ok (.astore_n 3, 1) := by decide +kernel
theorem dX11_stop_18 : decode cX11_stop 18 = .ok (.aload_n 3, 1) := by decide +kernel
theorem dX11_stop_19 : decode cX11_stop 19 = .ok (.ifnull 10, 3) := by decide +kernel
theorem dX11_stop_22 : decode cX11_stop 22 = .ok (.aload_n 3, 1) := by decide +kernel
theorem dX11_stop_23 : decode cX11_stop 23 = .ok (.invokevirtual 340, 3) := by decide +kernel
theorem dX11_stop_26 : decode cX11_stop 26 = .ok (.ifCond .ne 6, 3) := by decide +kernel
theorem dX11_stop_29 : decode cX11_stop 29 = .ok (.bipush (-3), 2) := by decide +kernel
theorem dX11_stop_31 : decode cX11_stop 31 = .ok (.ireturn, 1) := by decide +kernel
theorem dX11_stop_32 : decode cX11_stop 32 = .ok (.aload_n 3, 1) := by decide +kernel
theorem dX11_stop_33 : decode cX11_stop 33 = .ok (.invokevirtual 353, 3) := by decide +kernel
theorem dX11_stop_36 : decode cX11_stop 36 = .ok (.ireturn, 1) := by decide +kernel
theorem dX11_back_0 : decode cX11_back 0 = .ok (.aload_n 0, 1) := by decide +kernel
theorem dX11_back_1 : decode cX11_back 1 = .ok (.iload_n 1, 1) := by decide +kernel
theorem dX11_back_2 : decode cX11_back 2 = .ok (.invokevirtual 200, 3) := by decide +kernel
theorem dX11_back_5 : decode cX11_back 5 = .ok (.astore_n 3, 1) := by decide +kernel
theorem dX11_back_6 : decode cX11_back 6 = .ok (.aload_n 3, 1) := by decide +kernel
theorem dX11_back_7 : decode cX11_back 7 = .ok (.ifnull 8, 3) := by decide +kernel
theorem dX11_back_10 : decode cX11_back 10 = .ok (.iload_n 2, 1) := by decide +kernel
theorem dX11_back_11 : decode cX11_back 11 = .ok (.iconst 1, 1) := by decide +kernel
theorem dX11_back_12 : decode cX11_back 12 = .ok (.if_icmp .ge 6, 3) := by decide +kernel
theorem dX11_back_15 : decode cX11_back 15 = .ok (.bipush (-2), 2) := by decide +kernel
theorem dX11_back_17 : decode cX11_back 17 = .ok (.ireturn, 1) := by decide +kernel
theorem dX11_back_18 : decode cX11_back 18 = .ok (.aload_n 3, 1) := by decide +kernel
theorem dX11_back_19 : decode cX11_back 19 = .ok (.getfield 230, 3) := by decide +kernel
theorem dX11_back_22 : decode cX11_back 22 = .ok (.astore 4, 2) := by decide +kernel
theorem dX11_back_24 : decode cX11_back 24 = .ok (.aload 4, 2) := by decide +kernel
theorem dX11_back_26 : decode cX11_back 26 = .ok (.ifnonnull 6, 3) := by decide +kernel
theorem dX11_back_29 : decode cX11_back 29 = .ok (.bipush (-3), 2) := by decide +kernel
theorem dX11_back_31 : decode cX11_back 31 = .ok (.ireturn, 1) := by decide +kernel
theorem dX11_back_32 : decode cX11_back 32 = .ok (.iload_n 2, 1) := by decide +kernel
theorem dX11_back_33 : decode cX11_back 33 = .ok (.aload 4, 2) := by decide +kernel
theorem dX11_back_35 : decode cX11_back 35 = .ok (.getfield 246, 3) := by decide +kernel
theorem dX11_back_38 : decode cX11_back 38 = .ok (.if_icmp .le 6, 3) := by decide +kernel
theorem dX11_back_41 : decode cX11_back 41 = .ok (.bipush (-2), 2) := by decide +kernel
theorem dX11_back_43 : decode cX11_back 43 = .ok (.ireturn, 1) := by decide +kernel
theorem dX11_back_44 : decode cX11_back 44 = .ok (.aload 4, 2) := by decide +kernel
theorem dX11_back_46 : decode cX11_back 46 = .ok (.iload_n 2, 1) := by decide +kernel
theorem dX11_back_47 : decode cX11_back 47 = .ok (.invokevirtual 356, 3) := by decide +kernel
theorem dX11_back_50 : decode cX11_back 50 = .ok (.aload 4, 2) := by decide +kernel
theorem dX11_back_52 : decode cX11_back 52 = .ok (.getfield 246, 3) := by decide +kernel
theorem dX11_back_55 : decode cX11_back 55 = .ok (.ireturn, 1) := by decide +kernel
theorem dX11_count_0 : decode cX11_count 0 = .ok (.iload_n 1, 1) := by decide +kernel
theorem dX11_count_1 : decode cX11_count 1 = .ok (.tableswitch 90 0 7 #[47, 52, 57, 62, 67, 75, 80, 85], 47) := by decide +kernel
theorem dX11_count_48 : decode cX11_count 48 = .ok (.aload_n 0, 1) := by decide +kernel
theorem dX11_count_49 : decode cX11_count 49 = .ok (.getfield 102, 3) := by decide +kernel
theorem dX11_count_52 : decode cX11_count 52 = .ok (.ireturn, 1) := by decide +kernel
theorem dX11_count_53 : decode cX11_count 53 = .ok (.aload_n 0, 1) := by decide +kernel
theorem dX11_count_54 : decode cX11_count 54 = .ok (.getfield 132, 3) := by decide +kernel
theorem dX11_count_57 : decode cX11_count 57 = .ok (.ireturn, 1) := by decide +kernel
theorem dX11_count_58 : decode cX11_count 58 = .ok (.aload_n 0, 1) := by decide +kernel
theorem dX11_count_59 : decode cX11_count 59 = .ok (.getfield 172, 3) := by decide +kernel
theorem dX11_count_62 : decode cX11_count 62 = .ok (.ireturn, 1) := by decide +kernel
theorem dX11_count_63 : decode cX11_count 63 = .ok (.aload_n 0, 1) := by decide +kernel
theorem dX11_count_64 : decode cX11_count 64 = .ok (.getfield 82, 3) := by decide +kernel
theorem dX11_count_67 : decode cX11_count 67 = .ok (.ireturn, 1) := by decide +kernel
theorem dX11_count_68 : decode cX11_count 68 = .ok (.aload_n 0, 1) := by decide +kernel
theorem dX11_count_69 : decode cX11_count 69 = .ok (.getfield 42, 3) := by decide +kernel
theorem dX11_count_72 : decode cX11_count 72 = .ok (.getfield 248, 3) := by decide +kernel
theorem dX11_count_75 : decode cX11_count 75 = .ok (.ireturn, 1) := by decide +kernel
theorem dX11_count_76 : decode cX11_count 76 = .ok (.aload_n 0, 1) := by decide +kernel
theorem dX11_count_77 : decode cX11_count 77 = .ok (.invokevirtual 359, 3) := by decide +kernel
theorem dX11_count_80 : decode cX11_count 80 = .ok (.ireturn, 1) := by decide +kernel
theorem dX11_count_81 : decode cX11_count 81 = .ok (.aload_n 0, 1) := by decide +kernel
theorem dX11_count_82 : decode cX11_count 82 = .ok (.invokevirtual 362, 3) := by decide +kernel
theorem dX11_count_85 : decode cX11_count 85 = .ok (.ireturn, 1) := by decide +kernel
theorem dX11_count_86 : decode cX11_count 86 = .ok (.aload_n 0, 1) := by decide +kernel
theorem dX11_count_87 : decode cX11_count 87 = .ok (.getfield 165, 3) := by decide +kernel
theorem dX11_count_90 : decode cX11_count 90 = .ok (.ireturn, 1) := by decide +kernel
theorem dX11_count_91 : decode cX11_count 91 = .ok (.bipush (-2), 2) := by decide +kernel
theorem dX11_count_93 : decode cX11_count 93 = .ok (.ireturn, 1) := by decide +kernel
theorem dX11_sheet_0 : decode cX11_sheet 0 = .ok (.iload_n 1, 1) := by decide +kernel
theorem dX11_sheet_1 : decode cX11_sheet 1 = .ok (.iconst 0, 1) := by decide +kernel
theorem dX11_sheet_2 : decode cX11_sheet 2 = .ok (.iconst 3, 1) := by decide +kernel
theorem dX11_sheet_3 : decode cX11_sheet 3 = .ok (.invokestatic 98, 3) := by decide +kernel
theorem dX11_sheet_6 : decode cX11_sheet 6 = .ok (.ifCond .eq 15, 3) := by decide +kernel
theorem dX11_sheet_9 : decode cX11_sheet 9 = .ok (.iload_n 2, 1) := by decide +kernel
theorem dX11_sheet_10 : decode cX11_sheet 10 = .ok (.iconst (-1), 1) := by decide +kernel
theorem dX11_sheet_11 : decode cX11_sheet 11 = .ok (.if_icmp .eq 13, 3) := by decide +kernel
theorem dX11_sheet_14 : decode cX11_sheet 14 = .ok (.iload_n 2, 1) := by decide +kernel
theorem dX11_sheet_15 : decode cX11_sheet 15 = .ok (.invokestatic 178, 3) := by decide +kernel
theorem dX11_sheet_18 : decode cX11_sheet 18 = .ok (.ifCond .ne 6, 3) := by decide +kernel
theorem dX11_sheet_21 : decode cX11_sheet 21 = .ok (.bipush (-2), 2) := by decide +kernel
theorem dX11_sheet_23 : decode cX11_sheet 23 = .ok (.ireturn, 1) := by decide +kernel
theorem dX11_sheet_24 : decode cX11_sheet 24 = .ok (.iload_n 2, 1) := by decide +kernel
theorem dX11_sheet_25 : decode cX11_sheet 25 = .ok (.iconst (-1), 1) := by decide +kernel
theorem dX11_sheet_26 : decode cX11_sheet 26 = .ok (.if_icmp .ne 14, 3) := by decide +kernel
theorem dX11_sheet_29 : decode cX11_sheet 29 = .ok (.aload_n 0, 1) := by decide +kernel
theorem dX11_sheet_30 : decode cX11_sheet 30 = .ok (.getfield 35, 3) := by decide +kernel
theorem dX11_sheet_33 : decode cX11_sheet 33 = .ok (.iload_n 1, 1) := by decide +kernel
theorem dX11_sheet_34 : decode cX11_sheet 34 = .ok (.aaload, 1) := by decide +kernel
theorem dX11_sheet_35 : decode cX11_sheet 35 = .ok (.invokevirtual 365, 3) := by decide +kernel
theorem dX11_sheet_38 : decode cX11_sheet 38 = .ok (.iconst 1, 1) := by decide +kernel
theorem dX11_sheet_39 : decode cX11_sheet 39 = .ok (.ireturn, 1) := by decide +kernel
theorem dX11_sheet_40 : decode cX11_sheet 40 = .ok (.iload_n 3, 1) := by decide +kernel
theorem dX11_sheet_41 : decode cX11_sheet 41 = .ok (.bipush 40, 2) := by decide +kernel
theorem dX11_sheet_43 : decode cX11_sheet 43 = .ok (.if_icmp .le 6, 3) := by decide +kernel
theorem dX11_sheet_46 : decode cX11_sheet 46 = .ok (.bipush (-2), 2) := by decide +kernel
theorem dX11_sheet_48 : decode cX11_sheet 48 = .ok (.ireturn, 1) := by decide +kernel
theorem dX11_sheet_49 : decode cX11_sheet 49 = .ok (.iload_n 3, 1) := by decide +kernel
theorem dX11_sheet_50 : decode cX11_sheet 50 = .ok (.ifCond .ge 6, 3) := by decide +kernel
theorem dX11_sheet_53 : decode cX11_sheet 53 = .ok (.bipush (-14), 2) := by decide +kernel
theorem dX11_sheet_55 : decode cX11_sheet 55 = .ok (.ireturn, 1) := by decide +kernel
theorem dX11_sheet_56 : decode cX11_sheet 56 = .ok (.aload_n 0, 1) := by decide +kernel
theorem dX11_sheet_57 : decode cX11_sheet 57 = .ok (.getfield 35, 3) := by decide +kernel
theorem dX11_sheet_60 : decode cX11_sheet 60 = .ok (.iload_n 1, 1) := by decide +kernel
theorem dX11_sheet_61 : decode cX11_sheet 61 = .ok (.aaload, 1) := by decide +kernel
theorem dX11_sheet_62 : decode cX11_sheet 62 = .ok (.iload_n 2, 1) := by decide +kernel
theorem dX11_sheet_63 : decode cX11_sheet 63 = .ok (.iload_n 3, 1) := by decide +kernel
theorem dX11_sheet_64 : decode cX11_sheet 64 = .ok (.invokevirtual 368, 3) := by decide +kernel
theorem dX11_sheet_67 : decode cX11_sheet 67 = .ok (.iconst 1, 1) := by decide +kernel
theorem dX11_sheet_68 : decode cX11_sheet 68 = .ok (.ireturn, 1) := by decide +kernel
theorem dX11_cell_0 : decode cX11_cell 0 = .ok (.iload_n 1, 1) := by decide +kernel
theorem dX11_cell_1 : decode cX11_cell 1 = .ok (.iconst 0, 1) := by decide +kernel
theorem dX11_cell_2 : decode cX11_cell 2 = .ok (.iconst 3, 1) := by decide +kernel
theorem dX11_cell_3 : decode cX11_cell 3 = .ok (.invokestatic 98, 3) := by decide +kernel
theorem dX11_cell_6 : decode cX11_cell 6 = .ok (.ifCond .ne 6, 3) := by decide +kernel
theorem dX11_cell_9 : decode cX11_cell 9 = .ok (.bipush (-2), 2) := by decide +kernel
theorem dX11_cell_11 : decode cX11_cell 11 = .ok (.ireturn, 1) := by decide +kernel
theorem dX11_cell_12 : decode cX11_cell 12 = .ok (.aload_n 0, 1) := by decide +kernel
theorem dX11_cell_13 : decode cX11_cell 13 = .ok (.getfield 35, 3) := by decide +kernel
theorem dX11_cell_16 : decode cX11_cell 16 = .ok (.iload_n 1, 1) := by decide +kernel
theorem dX11_cell_17 : decode cX11_cell 17 = .ok (.aaload, 1) := by decide +kernel
theorem dX11_cell_18 : decode cX11_cell 18 = .ok (.astore 4, 2) := by decide +kernel
theorem dX11_cell_20 : decode cX11_cell 20 = .ok (.aload 4, 2) := by decide +kernel
theorem dX11_cell_22 : decode cX11_cell 22 = .ok (.invokevirtual 182, 3) := by decide +kernel
theorem dX11_cell_25 : decode cX11_cell 25 = .ok (.ifCond .eq 6, 3) := by decide +kernel
theorem dX11_cell_28 : decode cX11_cell 28 = .ok (.bipush (-11), 2) := by decide +kernel
theorem dX11_cell_30 : decode cX11_cell 30 = .ok (.ireturn, 1) := by decide +kernel
theorem dX11_cell_31 : decode cX11_cell 31 = .ok (.aload 4, 2) := by decide +kernel
theorem dX11_cell_33 : decode cX11_cell 33 = .ok (.iload_n 2, 1) := by decide +kernel
theorem dX11_cell_34 : decode cX11_cell 34 = .ok (.invokevirtual 189, 3) := by decide +kernel
theorem dX11_cell_37 : decode cX11_cell 37 = .ok (.ifCond .ne 6, 3) := by decide +kernel
theorem dX11_cell_40 : decode cX11_cell 40 = .ok (.bipush (-12), 2) := by decide +kernel
theorem dX11_cell_42 : decode cX11_cell 42 = .ok (.ireturn, 1) := by decide +kernel
theorem dX11_cell_43 : decode cX11_cell 43 = .ok (.aload 4, 2) := by decide +kernel
theorem dX11_cell_45 : decode cX11_cell 45 = .ok (.iload_n 2, 1) := by decide +kernel
theorem dX11_cell_46 : decode cX11_cell 46 = .ok (.iload_n 3, 1) := by decide +kernel
theorem dX11_cell_47 : decode cX11_cell 47 = .ok (.invokevirtual 371, 3) := by decide +kernel
theorem dX11_cell_50 : decode cX11_cell 50 = .ok (.iconst 1, 1) := by decide +kernel
theorem dX11_cell_51 : decode cX11_cell 51 = .ok (.ireturn, 1) := by decide +kernel
theorem dX11_taken_0 : decode cX11_taken 0 = .ok (.iload_n 2, 1) := by decide +kernel
theorem dX11_taken_1 : decode cX11_taken 1 = .ok (.iconst 0, 1) := by decide +kernel
theorem dX11_taken_2 : decode cX11_taken 2 = .ok (.iconst 5, 1) := by decide +kernel
theorem dX11_taken_3 : decode cX11_taken 3 = .ok (.invokestatic 98, 3) := by decide +kernel
theorem dX11_taken_6 : decode cX11_taken 6 = .ok (.ifCond .ne 6, 3) := by decide +kernel
theorem dX11_taken_9 : decode cX11_taken 9 = .ok (.bipush (-2), 2) := by decide +kernel
theorem dX11_taken_11 : decode cX11_taken 11 = .ok (.ireturn, 1) := by decide +kernel
theorem dX11_taken_12 : decode cX11_taken 12 = .ok (.aload_n 0, 1) := by decide +kernel
theorem dX11_taken_13 : decode cX11_taken 13 = .ok (.iload_n 1, 1) := by decide +kernel
theorem dX11_taken_14 : decode cX11_taken 14 = .ok (.invokevirtual 200, 3) := by decide +kernel
theorem dX11_taken_17 : decode cX11_taken 17 = .ok (.astore_n 3, 1) := by decide +kernel
theorem dX11_taken_18 : decode cX11_taken 18 = .ok (.aload_n 3, 1) := by decide +kernel
theorem dX11_taken_19 : decode cX11_taken 19 = .ok (.ifnonnull 6, 3) := by decide +kernel
theorem dX11_taken_22 : decode cX11_taken 22 = .ok (.bipush (-11), 2) := by decide +kernel
theorem dX11_taken_24 : decode cX11_taken 24 = .ok (.ireturn, 1) := by decide +kernel
theorem dX11_taken_25 : decode cX11_taken 25 = .ok (.aload_n 3, 1) := by decide +kernel
theorem dX11_taken_26 : decode cX11_taken 26 = .ok (.getfield 204, 3) := by decide +kernel
theorem dX11_taken_29 : decode cX11_taken 29 = .ok (.iload_n 2, 1) := by decide +kernel
theorem dX11_taken_30 : decode cX11_taken 30 = .ok (.invokestatic 374, 3) := by decide +kernel
theorem dX11_taken_33 : decode cX11_taken 33 = .ok (.ifCond .eq 10, 3) := by decide +kernel
theorem dX11_taken_36 : decode cX11_taken 36 = .ok (.aload_n 3, 1) := by decide +kernel
theorem dX11_taken_37 : decode cX11_taken 37 = .ok (.getfield 207, 3) := by decide +kernel
theorem dX11_taken_40 : decode cX11_taken 40 = .ok (.goto 5, 3) := by decide +kernel
theorem dX11_taken_43 : decode cX11_taken 43 = .ok (.bipush (-13), 2) := by decide +kernel
theorem dX11_taken_45 : decode cX11_taken 45 = .ok (.ireturn, 1) := by decide +kernel
theorem dX11_isWithin_0 : decode cX11_isWithin 0 = .ok (.iload_n 0, 1) := by decide +kernel
theorem dX11_isWithin_1 : decode cX11_isWithin 1 = .ok (.iload_n 1, 1) := by decide +kernel
theorem dX11_isWithin_2 : decode cX11_isWithin 2 = .ok (.if_icmp .lt 12, 3) := by decide +kernel
theorem dX11_isWithin_5 : decode cX11_isWithin 5 = .ok (.iload_n 0, 1) := by decide +kernel
theorem dX11_isWithin_6 : decode cX11_isWithin 6 = .ok (.iload_n 2, 1) := by decide +kernel
theorem dX11_isWithin_7 : decode cX11_isWithin 7 = .ok (.if_icmp .gt 7, 3) := by decide +kernel
theorem dX11_isWithin_10 : decode cX11_isWithin 10 = .ok (.iconst 1, 1) := by decide +kernel
theorem dX11_isWithin_11 : decode cX11_isWithin 11 = .ok (.goto 4, 3) := by decide +kernel
theorem dX11_isWithin_14 : decode cX11_isWithin 14 = .ok (.iconst 0, 1) := by decide +kernel
theorem dX11_isWithin_15 : decode cX11_isWithin 15 = .ok (.ireturn, 1) := by decide +kernel
theorem dX11_hasBit_0 : decode cX11_hasBit 0 = .ok (.iload_n 0, 1) := by decide +kernel
theorem dX11_hasBit_1 : decode cX11_hasBit 1 = .ok (.iload_n 1, 1) := by decide +kernel
theorem dX11_hasBit_2 : decode cX11_hasBit 2 = .ok (.ishr, 1) := by decide +kernel
theorem dX11_hasBit_3 : decode cX11_hasBit 3 = .ok (.iconst 1, 1) := by decide +kernel
theorem dX11_hasBit_4 : decode cX11_hasBit 4 = .ok (.iand, 1) := by decide +kernel
theorem dX11_hasBit_5 : decode cX11_hasBit 5 = .ok (.ifCond .eq 7, 3) := by decide +kernel
theorem dX11_hasBit_8 : decode cX11_hasBit 8 = .ok (.iconst 1, 1) := by decide +kernel
theorem dX11_hasBit_9 : decode cX11_hasBit 9 = .ok (.goto 4, 3) := by decide +kernel
theorem dX11_hasBit_12 : decode cX11_hasBit 12 = .ok (.iconst 0, 1) := by decide +kernel
theorem dX11_hasBit_13 : decode cX11_hasBit 13 = .ok (.ireturn, 1) := by decide +kernel
theorem dX11_needOf_0 : decode cX11_needOf 0 = .ok (.iload_n 0, 1) := by decide +kernel
theorem dX11_needOf_1 : decode cX11_needOf 1 = .ok (.iconst 0, 1) := by decide +kernel
theorem dX11_needOf_2 : decode cX11_needOf 2 = .ok (.getstatic 377, 3) := by decide +kernel
theorem dX11_needOf_5 : decode cX11_needOf 5 = .ok (.arraylength, 1) := by decide +kernel
theorem dX11_needOf_6 : decode cX11_needOf 6 = .ok (.iconst 1, 1) := by decide +kernel
theorem dX11_needOf_7 : decode cX11_needOf 7 = .ok (.isub, 1) := by decide +kernel
theorem dX11_needOf_8 : decode cX11_needOf 8 = .ok (.invokestatic 98, 3) := by decide +kernel
theorem dX11_needOf_11 : decode cX11_needOf 11 = .ok (.ifCond .eq 11, 3) := by decide +kernel
theorem dX11_needOf_14 : decode cX11_needOf 14 = .ok (.getstatic 377, 3) := by decide +kernel
theorem dX11_needOf_17 : decode cX11_needOf 17 = .ok (.iload_n 0, 1) := by decide +kernel
theorem dX11_needOf_18 : decode cX11_needOf 18 = .ok (.iaload, 1) := by decide +kernel
theorem dX11_needOf_19 : decode cX11_needOf 19 = .ok (.goto 4, 3) := by decide +kernel
theorem dX11_needOf_22 : decode cX11_needOf 22 = .ok (.iconst 0, 1) := by decide +kernel
theorem dX11_needOf_23 : decode cX11_needOf 23 = .ok (.ireturn, 1) := by decide +kernel
theorem dX11_isKindOrUnder_0 : decode cX11_isKindOrUnder 0 = .ok (.iload_n 0, 1) := by decide +kernel
theorem dX11_isKindOrUnder_1 : decode cX11_isKindOrUnder 1 = .ok (.istore_n 2, 1) := by decide +kernel
theorem dX11_isKindOrUnder_2 : decode cX11_isKindOrUnder 2 = .ok (.iconst 0, 1) := by decide +kernel
theorem dX11_isKindOrUnder_3 : decode cX11_isKindOrUnder 3 = .ok (.istore_n 3, 1) := by decide +kernel
theorem dX11_isKindOrUnder_4 : decode cX11_isKindOrUnder 4 = .ok (.iload_n 3, 1) := by decide +kernel
theorem dX11_isKindOrUnder_5 : decode cX11_isKindOrUnder 5 = .ok (.iconst 5, 1) := by decide +kernel
theorem dX11_isKindOrUnder_6 : decode cX11_isKindOrUnder 6 = .ok (.if_icmp .gt 36, 3) := by decide +kernel
theorem dX11_isKindOrUnder_9 : decode cX11_isKindOrUnder 9 = .ok (.iload_n 2, 1) := by decide +kernel
theorem dX11_isKindOrUnder_10 : decode cX11_isKindOrUnder 10 = .ok (.iconst 0, 1) := by decide +kernel
theorem dX11_isKindOrUnder_11 : decode cX11_isKindOrUnder 11 = .ok (.getstatic 380, 3) := by decide +kernel
theorem dX11_isKindOrUnder_14 : decode cX11_isKindOrUnder 14 = .ok (.arraylength, 1) := by decide +kernel
theorem dX11_isKindOrUnder_15 : decode cX11_isKindOrUnder 15 = .ok (.iconst 1, 1) := by decide +kernel
theorem dX11_isKindOrUnder_16 : decode cX11_isKindOrUnder 16 = .ok (.isub, 1) := by decide +kernel
theorem dX11_isKindOrUnder_17 : decode cX11_isKindOrUnder 17 = .ok (.invokestatic 98, 3) := by decide +kernel
theorem dX11_isKindOrUnder_20 : decode cX11_isKindOrUnder 20 = .ok (.ifCond .eq 22, 3) := by decide +kernel
theorem dX11_isKindOrUnder_23 : decode cX11_isKindOrUnder 23 = .ok (.iload_n 2, 1) := by decide +kernel
theorem dX11_isKindOrUnder_24 : decode cX11_isKindOrUnder 24 = .ok (.iload_n 1, 1) := by decide +kernel
theorem dX11_isKindOrUnder_25 : decode cX11_isKindOrUnder 25 = .ok (.if_icmp .ne 5, 3) := by decide +kernel
theorem dX11_isKindOrUnder_28 : decode cX11_isKindOrUnder 28 = .ok (.iconst 1, 1) := by decide +kernel
theorem dX11_isKindOrUnder_29 : decode cX11_isKindOrUnder 29 = .ok (.ireturn, 1) := by decide +kernel
theorem dX11_isKindOrUnder_30 : decode cX11_isKindOrUnder 30 = .ok (.getstatic 380, 3) := by decide +kernel
theorem dX11_isKindOrUnder_33 : decode cX11_isKindOrUnder 33 = .ok (.iload_n 2, 1) := by decide +kernel
theorem dX11_isKindOrUnder_34 : decode cX11_isKindOrUnder 34 = .ok (.iaload, 1) := by decide +kernel
theorem dX11_isKindOrUnder_35 : decode cX11_isKindOrUnder 35 = .ok (.istore_n 2, 1) := by decide +kernel
theorem dX11_isKindOrUnder_36 : decode cX11_isKindOrUnder 36 = .ok (.iinc 3 1, 3) := by decide +kernel
theorem dX11_isKindOrUnder_39 : decode cX11_isKindOrUnder 39 = .ok (.goto (-35), 3) := by decide +kernel
theorem dX11_isKindOrUnder_42 : decode cX11_isKindOrUnder 42 = .ok (.iconst 0, 1) := by decide +kernel
theorem dX11_isKindOrUnder_43 : decode cX11_isKindOrUnder 43 = .ok (.ireturn, 1) := by decide +kernel
theorem dX11_findFund_0 : decode cX11_findFund 0 = .ok (.iload_n 1, 1) := by decide +kernel
theorem dX11_findFund_1 : decode cX11_findFund 1 = .ok (.iconst 0, 1) := by decide +kernel
theorem dX11_findFund_2 : decode cX11_findFund 2 = .ok (.aload_n 0, 1) := by decide +kernel
theorem dX11_findFund_3 : decode cX11_findFund 3 = .ok (.getfield 102, 3) := by decide +kernel
theorem dX11_findFund_6 : decode cX11_findFund 6 = .ok (.iconst 1, 1) := by decide +kernel
theorem dX11_findFund_7 : decode cX11_findFund 7 = .ok (.isub, 1) := by decide +kernel
theorem dX11_findFund_8 : decode cX11_findFund 8 = .ok (.invokestatic 98, 3) := by decide +kernel
theorem dX11_findFund_11 : decode cX11_findFund 11 = .ok (.ifCond .eq 12, 3) := by decide +kernel
theorem dX11_findFund_14 : decode cX11_findFund 14 = .ok (.aload_n 0, 1) := by decide +kernel
theorem dX11_findFund_15 : decode cX11_findFund 15 = .ok (.getfield 11, 3) := by decide +kernel
theorem dX11_findFund_18 : decode cX11_findFund 18 = .ok (.iload_n 1, 1) := by decide +kernel
theorem dX11_findFund_19 : decode cX11_findFund 19 = .ok (.aaload, 1) := by decide +kernel
theorem dX11_findFund_20 : decode cX11_findFund 20 = .ok (.goto 4, 3) := by decide +kernel
theorem dX11_findFund_23 : decode cX11_findFund 23 = .ok (.aconst_null, 1) := by decide +kernel
theorem dX11_findFund_24 : decode cX11_findFund 24 = .ok (.areturn, 1) := by decide +kernel
theorem dX11_findReader_0 : decode cX11_findReader 0 = .ok (.iload_n 1, 1) := by decide +kernel
theorem dX11_findReader_1 : decode cX11_findReader 1 = .ok (.iconst 0, 1) := by decide +kernel
theorem dX11_findReader_2 : decode cX11_findReader 2 = .ok (.aload_n 0, 1) := by decide +kernel
theorem dX11_findReader_3 : decode cX11_findReader 3 = .ok (.getfield 132, 3) := by decide +kernel
theorem dX11_findReader_6 : decode cX11_findReader 6 = .ok (.iconst 1, 1) := by decide +kernel
theorem dX11_findReader_7 : decode cX11_findReader 7 = .ok (.isub, 1) := by decide +kernel
theorem dX11_findReader_8 : decode cX11_findReader 8 = .ok (.invokestatic 98, 3) := by decide +kernel
theorem dX11_findReader_11 : decode cX11_findReader 11 = .ok (.ifCond .eq 12, 3) := by decide +kernel
theorem dX11_findReader_14 : decode cX11_findReader 14 = .ok (.aload_n 0, 1) := by decide +kernel
theorem dX11_findReader_15 : decode cX11_findReader 15 = .ok (.getfield 17, 3) := by decide +kernel
theorem dX11_findReader_18 : decode cX11_findReader 18 = .ok (.iload_n 1, 1) := by decide +kernel
theorem dX11_findReader_19 : decode cX11_findReader 19 = .ok (.aaload, 1) := by decide +kernel
theorem dX11_findReader_20 : decode cX11_findReader 20 = .ok (.goto 4, 3) := by decide +kernel
theorem dX11_findReader_23 : decode cX11_findReader 23 = .ok (.aconst_null, 1) := by decide +kernel
theorem dX11_findReader_24 : decode cX11_findReader 24 = .ok (.areturn, 1) := by decide +kernel
theorem dX11_findAsking_0 : decode cX11_findAsking 0 = .ok (.iload_n 1, 1) := by decide +kernel
theorem dX11_findAsking_1 : decode cX11_findAsking 1 = .ok (.iconst 0, 1) := by decide +kernel
theorem dX11_findAsking_2 : decode cX11_findAsking 2 = .ok (.aload_n 0, 1) := by decide +kernel
theorem dX11_findAsking_3 : decode cX11_findAsking 3 = .ok (.getfield 172, 3) := by decide +kernel
theorem dX11_findAsking_6 : decode cX11_findAsking 6 = .ok (.iconst 1, 1) := by decide +kernel
theorem dX11_findAsking_7 : decode cX11_findAsking 7 = .ok (.isub, 1) := by decide +kernel
theorem dX11_findAsking_8 : decode cX11_findAsking 8 = .ok (.invokestatic 98, 3) := by decide +kernel
theorem dX11_findAsking_11 : decode cX11_findAsking 11 = .ok (.ifCond .eq 12, 3) := by decide +kernel
theorem dX11_findAsking_14 : decode cX11_findAsking 14 = .ok (.aload_n 0, 1) := by decide +kernel
theorem dX11_findAsking_15 : decode cX11_findAsking 15 = .ok (.getfield 23, 3) := by decide +kernel
theorem dX11_findAsking_18 : decode cX11_findAsking 18 = .ok (.iload_n 1, 1) := by decide +kernel
theorem dX11_findAsking_19 : decode cX11_findAsking 19 = .ok (.aaload, 1) := by decide +kernel
theorem dX11_findAsking_20 : decode cX11_findAsking 20 = .ok (.goto 4, 3) := by decide +kernel
theorem dX11_findAsking_23 : decode cX11_findAsking 23 = .ok (.aconst_null, 1) := by decide +kernel
theorem dX11_findAsking_24 : decode cX11_findAsking 24 = .ok (.areturn, 1) := by decide +kernel
theorem dX11_marksThatCount_0 : decode cX11_marksThatCount 0 = .ok (.iconst 0, 1) := by decide +kernel
theorem dX11_marksThatCount_1 : decode cX11_marksThatCount 1 = .ok (.istore_n 2, 1) := by decide +kernel
theorem dX11_marksThatCount_2 : decode cX11_marksThatCount 2 = .ok (.iconst 0, 1) := by decide +kernel
theorem dX11_marksThatCount_3 : decode cX11_marksThatCount 3 = .ok (.istore_n 3, 1) := by decide +kernel
theorem dX11_marksThatCount_4 : decode cX11_marksThatCount 4 = .ok (.iload_n 3, 1) := by decide +kernel
theorem dX11_marksThatCount_5 : decode cX11_marksThatCount 5 = .ok (.aload_n 0, 1) := by decide +kernel
theorem dX11_marksThatCount_6 : decode cX11_marksThatCount 6 = .ok (.getfield 132, 3) := by decide +kernel
theorem dX11_marksThatCount_9 : decode cX11_marksThatCount 9 = .ok (.if_icmp .ge 25, 3) := by decide +kernel
theorem dX11_marksThatCount_12 : decode cX11_marksThatCount 12 = .ok (.aload_n 1, 1) := by decide +kernel
theorem dX11_marksThatCount_13 : decode cX11_marksThatCount 13 = .ok (.aload_n 0, 1) := by decide +kernel
theorem dX11_marksThatCount_14 : decode cX11_marksThatCount 14 = .ok (.getfield 17, 3) := by decide +kernel
theorem dX11_marksThatCount_17 : decode cX11_marksThatCount 17 = .ok (.iload_n 3, 1) := by decide +kernel
theorem dX11_marksThatCount_18 : decode cX11_marksThatCount 18 = .ok (.aaload, 1) := by decide +kernel
theorem dX11_marksThatCount_19 : decode cX11_marksThatCount 19 = .ok (.invokevirtual 383, 3) := by decide +kernel
theorem dX11_marksThatCount_22 : decode cX11_marksThatCount 22 = .ok (.ifCond .eq 6, 3) := by decide +kernel
theorem dX11_marksThatCount_25 : decode cX11_marksThatCount 25 = .ok (.iinc 2 1, 3) := by decide +kernel
theorem dX11_marksThatCount_28 : decode cX11_marksThatCount 28 = .ok (.iinc 3 1, 3) := by decide +kernel
theorem dX11_marksThatCount_31 : decode cX11_marksThatCount 31 = .ok (.goto (-27), 3) := by decide +kernel
theorem dX11_marksThatCount_34 : decode cX11_marksThatCount 34 = .ok (.iload_n 2, 1) := by decide +kernel
theorem dX11_marksThatCount_35 : decode cX11_marksThatCount 35 = .ok (.ireturn, 1) := by decide +kernel
theorem dX11_marksThatCountOf_0 : decode cX11_marksThatCountOf 0 = .ok (.iconst 0, 1) := by decide +kernel
theorem dX11_marksThatCountOf_1 : decode cX11_marksThatCountOf 1 = .ok (.istore_n 2, 1) := by decide +kernel
theorem dX11_marksThatCountOf_2 : decode cX11_marksThatCountOf 2 = .ok (.iconst 0, 1) := by decide +kernel
theorem dX11_marksThatCountOf_3 : decode cX11_marksThatCountOf 3 = .ok (.istore_n 3, 1) := by decide +kernel
theorem dX11_marksThatCountOf_4 : decode cX11_marksThatCountOf 4 = .ok (.iload_n 3, 1) := by decide +kernel
theorem dX11_marksThatCountOf_5 : decode cX11_marksThatCountOf 5 = .ok (.aload_n 0, 1) := by decide +kernel
theorem dX11_marksThatCountOf_6 : decode cX11_marksThatCountOf 6 = .ok (.getfield 172, 3) := by decide +kernel
theorem dX11_marksThatCountOf_9 : decode cX11_marksThatCountOf 9 = .ok (.if_icmp .ge 25, 3) := by decide +kernel
theorem dX11_marksThatCountOf_12 : decode cX11_marksThatCountOf 12 = .ok (.aload_n 0, 1) := by decide +kernel
theorem dX11_marksThatCountOf_13 : decode cX11_marksThatCountOf 13 = .ok (.getfield 23, 3) := by decide +kernel
theorem dX11_marksThatCountOf_16 : decode cX11_marksThatCountOf 16 = .ok (.iload_n 3, 1) := by decide +kernel
theorem dX11_marksThatCountOf_17 : decode cX11_marksThatCountOf 17 = .ok (.aaload, 1) := by decide +kernel
theorem dX11_marksThatCountOf_18 : decode cX11_marksThatCountOf 18 = .ok (.aload_n 1, 1) := by decide +kernel
theorem dX11_marksThatCountOf_19 : decode cX11_marksThatCountOf 19 = .ok (.invokevirtual 383, 3) := by decide +kernel
theorem dX11_marksThatCountOf_22 : decode cX11_marksThatCountOf 22 = .ok (.ifCond .eq 6, 3) := by decide +kernel
theorem dX11_marksThatCountOf_25 : decode cX11_marksThatCountOf 25 = .ok (.iinc 2 1, 3) := by decide +kernel
theorem dX11_marksThatCountOf_28 : decode cX11_marksThatCountOf 28 = .ok (.iinc 3 1, 3) := by decide +kernel
theorem dX11_marksThatCountOf_31 : decode cX11_marksThatCountOf 31 = .ok (.goto (-27), 3) := by decide +kernel
theorem dX11_marksThatCountOf_34 : decode cX11_marksThatCountOf 34 = .ok (.iload_n 2, 1) := by decide +kernel
theorem dX11_marksThatCountOf_35 : decode cX11_marksThatCountOf 35 = .ok (.ireturn, 1) := by decide +kernel
theorem dX11_allMarksThatCount_0 : decode cX11_allMarksThatCount 0 = .ok (.iconst 0, 1) := by decide +kernel
theorem dX11_allMarksThatCount_1 : decode cX11_allMarksThatCount 1 = .ok (.istore_n 1, 1) := by decide +kernel
theorem dX11_allMarksThatCount_2 : decode cX11_allMarksThatCount 2 = .ok (.iconst 0, 1) := by decide +kernel
theorem dX11_allMarksThatCount_3 : decode cX11_allMarksThatCount 3 = .ok (.istore_n 2, 1) := by decide +kernel
theorem dX11_allMarksThatCount_4 : decode cX11_allMarksThatCount 4 = .ok (.iload_n 2, 1) := by decide +kernel
theorem dX11_allMarksThatCount_5 : decode cX11_allMarksThatCount 5 = .ok (.aload_n 0, 1) := by decide +kernel
theorem dX11_allMarksThatCount_6 : decode cX11_allMarksThatCount 6 = .ok (.getfield 172, 3) := by decide +kernel
theorem dX11_allMarksThatCount_9 : decode cX11_allMarksThatCount 9 = .ok (.if_icmp .ge 22, 3) := by decide +kernel
theorem dX11_allMarksThatCount_12 : decode cX11_allMarksThatCount 12 = .ok (.iload_n 1, 1) := by decide +kernel
theorem dX11_allMarksThatCount_13 : decode cX11_allMarksThatCount 13 = .ok (.aload_n 0, 1) := by decide +kernel
theorem dX11_allMarksThatCount_14 : decode cX11_allMarksThatCount 14 = .ok (.aload_n 0, 1) := by decide +kernel
theorem dX11_allMarksThatCount_15 : decode cX11_allMarksThatCount 15 = .ok (.getfield 23, 3) := by decide +kernel
theorem dX11_allMarksThatCount_18 : decode cX11_allMarksThatCount 18 = .ok (.iload_n 2, 1) := by decide +kernel
theorem dX11_allMarksThatCount_19 : decode cX11_allMarksThatCount 19 = .ok (.aaload, 1) := by decide +kernel
theorem dX11_allMarksThatCount_20 : decode cX11_allMarksThatCount 20 = .ok (.invokevirtual 226, 3) := by decide +kernel
theorem dX11_allMarksThatCount_23 : decode cX11_allMarksThatCount 23 = .ok (.iadd, 1) := by decide +kernel
theorem dX11_allMarksThatCount_24 : decode cX11_allMarksThatCount 24 = .ok (.istore_n 1, 1) := by decide +kernel
theorem dX11_allMarksThatCount_25 : decode cX11_allMarksThatCount 25 = .ok (.iinc 2 1, 3) := by decide +kernel
theorem dX11_allMarksThatCount_28 : decode cX11_allMarksThatCount 28 = .ok (.goto (-24), 3) := by decide +kernel
theorem dX11_allMarksThatCount_31 : decode cX11_allMarksThatCount 31 = .ok (.iload_n 1, 1) := by decide +kernel
theorem dX11_allMarksThatCount_32 : decode cX11_allMarksThatCount 32 = .ok (.ireturn, 1) := by decide +kernel
theorem dX11_allGrants_0 : decode cX11_allGrants 0 = .ok (.iconst 0, 1) := by decide +kernel
theorem dX11_allGrants_1 : decode cX11_allGrants 1 = .ok (.istore_n 1, 1) := by decide +kernel
theorem dX11_allGrants_2 : decode cX11_allGrants 2 = .ok (.iconst 0, 1) := by decide +kernel
theorem dX11_allGrants_3 : decode cX11_allGrants 3 = .ok (.istore_n 2, 1) := by decide +kernel
theorem dX11_allGrants_4 : decode cX11_allGrants 4 = .ok (.iload_n 2, 1) := by decide +kernel
theorem dX11_allGrants_5 : decode cX11_allGrants 5 = .ok (.aload_n 0, 1) := by decide +kernel
theorem dX11_allGrants_6 : decode cX11_allGrants 6 = .ok (.getfield 172, 3) := by decide +kernel
theorem dX11_allGrants_9 : decode cX11_allGrants 9 = .ok (.if_icmp .ge 24, 3) := by decide +kernel
theorem dX11_allGrants_12 : decode cX11_allGrants 12 = .ok (.aload_n 0, 1) := by decide +kernel
theorem dX11_allGrants_13 : decode cX11_allGrants 13 = .ok (.getfield 23, 3) := by decide +kernel
theorem dX11_allGrants_16 : decode cX11_allGrants 16 = .ok (.iload_n 2, 1) := by decide +kernel
theorem dX11_allGrants_17 : decode cX11_allGrants 17 = .ok (.aaload, 1) := by decide +kernel
theorem dX11_allGrants_18 : decode cX11_allGrants 18 = .ok (.getfield 230, 3) := by decide +kernel
theorem dX11_allGrants_21 : decode cX11_allGrants 21 = .ok (.ifnull 6, 3) := by decide +kernel
theorem dX11_allGrants_24 : decode cX11_allGrants 24 = .ok (.iinc 1 1, 3) := by decide +kernel
theorem dX11_allGrants_27 : decode cX11_allGrants 27 = .ok (.iinc 2 1, 3) := by decide +kernel
theorem dX11_allGrants_30 : decode cX11_allGrants 30 = .ok (.goto (-26), 3) := by decide +kernel
theorem dX11_allGrants_33 : decode cX11_allGrants 33 = .ok (.iload_n 1, 1) := by decide +kernel
theorem dX11_allGrants_34 : decode cX11_allGrants 34 = .ok (.ireturn, 1) := by decide +kernel
theorem dX11_weigh_0 : decode cX11_weigh 0 = .ok (.aload_n 0, 1) := by decide +kernel
theorem dX11_weigh_1 : decode cX11_weigh 1 = .ok (.getfield 60, 3) := by decide +kernel
theorem dX11_weigh_4 : decode cX11_weigh 4 = .ok (.invokevirtual 386, 3) := by decide +kernel
theorem dX11_weigh_7 : decode cX11_weigh 7 = .ok (.iconst 0, 1) := by decide +kernel
theorem dX11_weigh_8 : decode cX11_weigh 8 = .ok (.istore_n 2, 1) := by decide +kernel
theorem dX11_weigh_9 : decode cX11_weigh 9 = .ok (.iload_n 2, 1) := by decide +kernel
theorem dX11_weigh_10 : decode cX11_weigh 10 = .ok (.aload_n 0, 1) := by decide +kernel
theorem dX11_weigh_11 : decode cX11_weigh 11 = .ok (.getfield 172, 3) := by decide +kernel
theorem dX11_weigh_14 : decode cX11_weigh 14 = .ok (.if_icmp .ge 66, 3) := by decide +kernel
theorem dX11_weigh_17 : decode cX11_weigh 17 = .ok (.iconst 0, 1) := by decide +kernel
theorem dX11_weigh_18 : decode cX11_weigh 18 = .ok (.istore_n 3, 1) := by decide +kernel
theorem dX11_weigh_19 : decode cX11_weigh 19 = .ok (.iload_n 3, 1) := by decide +kernel
theorem dX11_weigh_20 : decode cX11_weigh 20 = .ok (.aload_n 0, 1) := by decide +kernel
theorem dX11_weigh_21 : decode cX11_weigh 21 = .ok (.getfield 132, 3) := by decide +kernel
theorem dX11_weigh_24 : decode cX11_weigh 24 = .ok (.if_icmp .ge 50, 3) := by decide +kernel
theorem dX11_weigh_27 : decode cX11_weigh 27 = .ok (.aload_n 0, 1) := by decide +kernel
theorem dX11_weigh_28 : decode cX11_weigh 28 = .ok (.getfield 23, 3) := by decide +kernel
theorem dX11_weigh_31 : decode cX11_weigh 31 = .ok (.iload_n 2, 1) := by decide +kernel
theorem dX11_weigh_32 : decode cX11_weigh 32 = .ok (.aaload, 1) := by decide +kernel
theorem dX11_weigh_33 : decode cX11_weigh 33 = .ok (.aload_n 0, 1) := by decide +kernel
theorem dX11_weigh_34 : decode cX11_weigh 34 = .ok (.getfield 17, 3) := by decide +kernel
theorem dX11_weigh_37 : decode cX11_weigh 37 = .ok (.iload_n 3, 1) := by decide +kernel
theorem dX11_weigh_38 : decode cX11_weigh 38 = .ok (.aaload, 1) := by decide +kernel
theorem dX11_weigh_39 : decode cX11_weigh 39 = .ok (.invokevirtual 383, 3) := by decide +kernel
theorem dX11_weigh_42 : decode cX11_weigh 42 = .ok (.ifCond .eq 26, 3) := by decide +kernel
theorem dX11_weigh_45 : decode cX11_weigh 45 = .ok (.aload_n 0, 1) := by decide +kernel
theorem dX11_weigh_46 : decode cX11_weigh 46 = .ok (.getfield 60, 3) := by decide +kernel
theorem dX11_weigh_49 : decode cX11_weigh 49 = .ok (.iload_n 3, 1) := by decide +kernel
theorem dX11_weigh_50 : decode cX11_weigh 50 = .ok (.aload_n 0, 1) := by decide +kernel
theorem dX11_weigh_51 : decode cX11_weigh 51 = .ok (.getfield 23, 3) := by decide +kernel
theorem dX11_weigh_54 : decode cX11_weigh 54 = .ok (.iload_n 2, 1) := by decide +kernel
theorem dX11_weigh_55 : decode cX11_weigh 55 = .ok (.aaload, 1) := by decide +kernel
theorem dX11_weigh_56 : decode cX11_weigh 56 = .ok (.aload_n 0, 1) := by decide +kernel
theorem dX11_weigh_57 : decode cX11_weigh 57 = .ok (.getfield 17, 3) := by decide +kernel
theorem dX11_weigh_60 : decode cX11_weigh 60 = .ok (.iload_n 3, 1) := by decide +kernel
theorem dX11_weigh_61 : decode cX11_weigh 61 = .ok (.aaload, 1) := by decide +kernel
theorem dX11_weigh_62 : decode cX11_weigh 62 = .ok (.invokevirtual 387, 3) := by decide +kernel
theorem dX11_weigh_65 : decode cX11_weigh 65 = .ok (.invokevirtual 390, 3) := by decide +kernel
theorem dX11_weigh_68 : decode cX11_weigh 68 = .ok (.iinc 3 1, 3) := by decide +kernel
theorem dX11_weigh_71 : decode cX11_weigh 71 = .ok (.goto (-52), 3) := by decide +kernel
theorem dX11_weigh_74 : decode cX11_weigh 74 = .ok (.iinc 2 1, 3) := by decide +kernel
theorem dX11_weigh_77 : decode cX11_weigh 77 = .ok (.goto (-68), 3) := by decide +kernel
theorem dX11_weigh_80 : decode cX11_weigh 80 = .ok (.iconst 0, 1) := by decide +kernel
theorem dX11_weigh_81 : decode cX11_weigh 81 = .ok (.istore_n 2, 1) := by decide +kernel
theorem dX11_weigh_82 : decode cX11_weigh 82 = .ok (.iload_n 2, 1) := by decide +kernel
theorem dX11_weigh_83 : decode cX11_weigh 83 = .ok (.aload_n 0, 1) := by decide +kernel
theorem dX11_weigh_84 : decode cX11_weigh 84 = .ok (.getfield 132, 3) := by decide +kernel
theorem dX11_weigh_87 : decode cX11_weigh 87 = .ok (.if_icmp .ge 40, 3) := by decide +kernel
theorem dX11_weigh_90 : decode cX11_weigh 90 = .ok (.aload_n 1, 1) := by decide +kernel
theorem dX11_weigh_91 : decode cX11_weigh 91 = .ok (.aload_n 0, 1) := by decide +kernel
theorem dX11_weigh_92 : decode cX11_weigh 92 = .ok (.getfield 17, 3) := by decide +kernel
theorem dX11_weigh_95 : decode cX11_weigh 95 = .ok (.iload_n 2, 1) := by decide +kernel
theorem dX11_weigh_96 : decode cX11_weigh 96 = .ok (.aaload, 1) := by decide +kernel
theorem dX11_weigh_97 : decode cX11_weigh 97 = .ok (.invokevirtual 383, 3) := by decide +kernel
theorem dX11_weigh_100 : decode cX11_weigh 100 = .ok (.ifCond .eq 21, 3) := by decide +kernel
theorem dX11_weigh_103 : decode cX11_weigh 103 = .ok (.aload_n 0, 1) := by decide +kernel
theorem dX11_weigh_104 : decode cX11_weigh 104 = .ok (.getfield 60, 3) := by decide +kernel
theorem dX11_weigh_107 : decode cX11_weigh 107 = .ok (.iload_n 2, 1) := by decide +kernel
theorem dX11_weigh_108 : decode cX11_weigh 108 = .ok (.aload_n 1, 1) := by decide +kernel
theorem dX11_weigh_109 : decode cX11_weigh 109 = .ok (.aload_n 0, 1) := by decide +kernel
theorem dX11_weigh_110 : decode cX11_weigh 110 = .ok (.getfield 17, 3) := by decide +kernel
theorem dX11_weigh_113 : decode cX11_weigh 113 = .ok (.iload_n 2, 1) := by decide +kernel
theorem dX11_weigh_114 : decode cX11_weigh 114 = .ok (.aaload, 1) := by decide +kernel
theorem dX11_weigh_115 : decode cX11_weigh 115 = .ok (.invokevirtual 387, 3) := by decide +kernel
theorem dX11_weigh_118 : decode cX11_weigh 118 = .ok (.invokevirtual 392, 3) := by decide +kernel
theorem dX11_weigh_121 : decode cX11_weigh 121 = .ok (.iinc 2 1, 3) := by decide +kernel
theorem dX11_weigh_124 : decode cX11_weigh 124 = .ok (.goto (-42), 3) := by decide +kernel
theorem dX11_weigh_127 : decode cX11_weigh 127 = .ok (.aload_n 0, 1) := by decide +kernel
theorem dX11_weigh_128 : decode cX11_weigh 128 = .ok (.getfield 60, 3) := by decide +kernel
theorem dX11_weigh_131 : decode cX11_weigh 131 = .ok (.invokevirtual 395, 3) := by decide +kernel
theorem dX11_weigh_134 : decode cX11_weigh 134 = .ok (.return_, 1) := by decide +kernel
theorem dX11_setFacts_0 : decode cX11_setFacts 0 = .ok (.aload_n 0, 1) := by decide +kernel
theorem dX11_setFacts_1 : decode cX11_setFacts 1 = .ok (.getfield 53, 3) := by decide +kernel
theorem dX11_setFacts_4 : decode cX11_setFacts 4 = .ok (.iconst 0, 1) := by decide +kernel
theorem dX11_setFacts_5 : decode cX11_setFacts 5 = .ok (.iload_n 1, 1) := by decide +kernel
theorem dX11_setFacts_6 : decode cX11_setFacts 6 = .ok (.iastore, 1) := by decide +kernel
theorem dX11_setFacts_7 : decode cX11_setFacts 7 = .ok (.aload_n 0, 1) := by decide +kernel
theorem dX11_setFacts_8 : decode cX11_setFacts 8 = .ok (.getfield 53, 3) := by decide +kernel
theorem dX11_setFacts_11 : decode cX11_setFacts 11 = .ok (.iconst 1, 1) := by decide +kernel
theorem dX11_setFacts_12 : decode cX11_setFacts 12 = .ok (.iload_n 2, 1) := by decide +kernel
theorem dX11_setFacts_13 : decode cX11_setFacts 13 = .ok (.iastore, 1) := by decide +kernel
theorem dX11_setFacts_14 : decode cX11_setFacts 14 = .ok (.aload_n 0, 1) := by decide +kernel
theorem dX11_setFacts_15 : decode cX11_setFacts 15 = .ok (.getfield 53, 3) := by decide +kernel
theorem dX11_setFacts_18 : decode cX11_setFacts 18 = .ok (.iconst 2, 1) := by decide +kernel
theorem dX11_setFacts_19 : decode cX11_setFacts 19 = .ok (.iload_n 3, 1) := by decide +kernel
theorem dX11_setFacts_20 : decode cX11_setFacts 20 = .ok (.iastore, 1) := by decide +kernel
theorem dX11_setFacts_21 : decode cX11_setFacts 21 = .ok (.aload_n 0, 1) := by decide +kernel
theorem dX11_setFacts_22 : decode cX11_setFacts 22 = .ok (.getfield 53, 3) := by decide +kernel
theorem dX11_setFacts_25 : decode cX11_setFacts 25 = .ok (.iconst 3, 1) := by decide +kernel
theorem dX11_setFacts_26 : decode cX11_setFacts 26 = .ok (.iload 4, 2) := by decide +kernel
theorem dX11_setFacts_28 : decode cX11_setFacts 28 = .ok (.iastore, 1) := by decide +kernel
theorem dX11_setFacts_29 : decode cX11_setFacts 29 = .ok (.return_, 1) := by decide +kernel
theorem dX11_setReadingFacts_0 : decode cX11_setReadingFacts 0 = .ok (.aload_n 0, 1) := by decide +kernel
theorem dX11_setReadingFacts_1 : decode cX11_setReadingFacts 1 = .ok (.getfield 53, 3) := by decide +kernel
theorem dX11_setReadingFacts_4 : decode cX11_setReadingFacts 4 = .ok (.iconst 4, 1) := by decide +kernel
theorem dX11_setReadingFacts_5 : decode cX11_setReadingFacts 5 = .ok (.iload_n 1, 1) := by decide +kernel
theorem dX11_setReadingFacts_6 : decode cX11_setReadingFacts 6 = .ok (.iastore, 1) := by decide +kernel
theorem dX11_setReadingFacts_7 : decode cX11_setReadingFacts 7 = .ok (.aload_n 0, 1) := by decide +kernel
theorem dX11_setReadingFacts_8 : decode cX11_setReadingFacts 8 = .ok (.getfield 53, 3) := by decide +kernel
theorem dX11_setReadingFacts_11 : decode cX11_setReadingFacts 11 = .ok (.iconst 5, 1) := by decide +kernel
theorem dX11_setReadingFacts_12 : decode cX11_setReadingFacts 12 = .ok (.iload_n 2, 1) := by decide +kernel
theorem dX11_setReadingFacts_13 : decode cX11_setReadingFacts 13 = .ok (.iastore, 1) := by decide +kernel
theorem dX11_setReadingFacts_14 : decode cX11_setReadingFacts 14 = .ok (.aload_n 0, 1) := by decide +kernel
theorem dX11_setReadingFacts_15 : decode cX11_setReadingFacts 15 = .ok (.getfield 53, 3) := by decide +kernel
theorem dX11_setReadingFacts_18 : decode cX11_setReadingFacts 18 = .ok (.bipush 6, 2) := by decide +kernel
theorem dX11_setReadingFacts_20 : decode cX11_setReadingFacts 20 = .ok (.iload_n 3, 1) := by decide +kernel
theorem dX11_setReadingFacts_21 : decode cX11_setReadingFacts 21 = .ok (.iastore, 1) := by decide +kernel
theorem dX11_setReadingFacts_22 : decode cX11_setReadingFacts 22 = .ok (.return_, 1) := by decide +kernel
theorem dX11_reckon_0 : decode cX11_reckon 0 = .ok (.iload_n 1, 1) := by decide +kernel
theorem dX11_reckon_1 : decode cX11_reckon 1 = .ok (.iconst 0, 1) := by decide +kernel
theorem dX11_reckon_2 : decode cX11_reckon 2 = .ok (.aload_n 0, 1) := by decide +kernel
theorem dX11_reckon_3 : decode cX11_reckon 3 = .ok (.getfield 82, 3) := by decide +kernel
theorem dX11_reckon_6 : decode cX11_reckon 6 = .ok (.iconst 1, 1) := by decide +kernel
theorem dX11_reckon_7 : decode cX11_reckon 7 = .ok (.isub, 1) := by decide +kernel
theorem dX11_reckon_8 : decode cX11_reckon 8 = .ok (.invokestatic 98, 3) := by decide +kernel
theorem dX11_reckon_11 : decode cX11_reckon 11 = .ok (.ifCond .eq 20, 3) := by decide +kernel
theorem dX11_reckon_14 : decode cX11_reckon 14 = .ok (.aload_n 0, 1) := by decide +kernel
theorem dX11_reckon_15 : decode cX11_reckon 15 = .ok (.getfield 29, 3) := by decide +kernel
theorem dX11_reckon_18 : decode cX11_reckon 18 = .ok (.iload_n 1, 1) := by decide +kernel
theorem dX11_reckon_19 : decode cX11_reckon 19 = .ok (.aaload, 1) := by decide +kernel
theorem dX11_reckon_20 : decode cX11_reckon 20 = .ok (.iload_n 2, 1) := by decide +kernel
theorem dX11_reckon_21 : decode cX11_reckon 21 = .ok (.aload_n 0, 1) := by decide +kernel
theorem dX11_reckon_22 : decode cX11_reckon 22 = .ok (.getfield 53, 3) := by decide +kernel
theorem dX11_reckon_25 : decode cX11_reckon 25 = .ok (.invokevirtual 398, 3) := by decide +kernel
theorem dX11_reckon_28 : decode cX11_reckon 28 = .ok (.goto 4, 3) := by decide +kernel
theorem dX11_reckon_31 : decode cX11_reckon 31 = .ok (.iconst 0, 1) := by decide +kernel
theorem dX11_reckon_32 : decode cX11_reckon 32 = .ok (.ireturn, 1) := by decide +kernel
theorem dX11_reckonFor_0 : decode cX11_reckonFor 0 = .ok (.aload_n 0, 1) := by decide +kernel
theorem dX11_reckonFor_1 : decode cX11_reckonFor 1 = .ok (.aload_n 1, 1) := by decide +kernel
theorem dX11_reckonFor_2 : decode cX11_reckonFor 2 = .ok (.invokevirtual 305, 3) := by decide +kernel
theorem dX11_reckonFor_5 : decode cX11_reckonFor 5 = .ok (.aload_n 0, 1) := by decide +kernel
theorem dX11_reckonFor_6 : decode cX11_reckonFor 6 = .ok (.aload_n 1, 1) := by decide +kernel
theorem dX11_reckonFor_7 : decode cX11_reckonFor 7 = .ok (.getfield 204, 3) := by decide +kernel
theorem dX11_reckonFor_10 : decode cX11_reckonFor 10 = .ok (.aload_n 1, 1) := by decide +kernel
theorem dX11_reckonFor_11 : decode cX11_reckonFor 11 = .ok (.getfield 214, 3) := by decide +kernel
theorem dX11_reckonFor_14 : decode cX11_reckonFor 14 = .ok (.aload_n 1, 1) := by decide +kernel
theorem dX11_reckonFor_15 : decode cX11_reckonFor 15 = .ok (.getfield 211, 3) := by decide +kernel
theorem dX11_reckonFor_18 : decode cX11_reckonFor 18 = .ok (.aload_n 1, 1) := by decide +kernel
theorem dX11_reckonFor_19 : decode cX11_reckonFor 19 = .ok (.getfield 217, 3) := by decide +kernel
theorem dX11_reckonFor_22 : decode cX11_reckonFor 22 = .ok (.invokevirtual 158, 3) := by decide +kernel
theorem dX11_reckonFor_25 : decode cX11_reckonFor 25 = .ok (.aload_n 0, 1) := by decide +kernel
theorem dX11_reckonFor_26 : decode cX11_reckonFor 26 = .ok (.aload_n 0, 1) := by decide +kernel
theorem dX11_reckonFor_27 : decode cX11_reckonFor 27 = .ok (.getfield 60, 3) := by decide +kernel
theorem dX11_reckonFor_30 : decode cX11_reckonFor 30 = .ok (.invokevirtual 326, 3) := by decide +kernel
theorem dX11_reckonFor_33 : decode cX11_reckonFor 33 = .ok (.aload_n 0, 1) := by decide +kernel
theorem dX11_reckonFor_34 : decode cX11_reckonFor 34 = .ok (.aload_n 1, 1) := by decide +kernel
theorem dX11_reckonFor_35 : decode cX11_reckonFor 35 = .ok (.invokevirtual 226, 3) := by decide +kernel
theorem dX11_reckonFor_38 : decode cX11_reckonFor 38 = .ok (.iload_n 3, 1) := by decide +kernel
theorem dX11_reckonFor_39 : decode cX11_reckonFor 39 = .ok (.invokevirtual 161, 3) := by decide +kernel
theorem dX11_reckonFor_42 : decode cX11_reckonFor 42 = .ok (.aload_n 0, 1) := by decide +kernel
theorem dX11_reckonFor_43 : decode cX11_reckonFor 43 = .ok (.aload_n 1, 1) := by decide +kernel
theorem dX11_reckonFor_44 : decode cX11_reckonFor 44 = .ok (.getfield 402, 3) := by decide +kernel
theorem dX11_reckonFor_47 : decode cX11_reckonFor 47 = .ok (.iload_n 2, 1) := by decide +kernel
theorem dX11_reckonFor_48 : decode cX11_reckonFor 48 = .ok (.invokevirtual 168, 3) := by decide +kernel
theorem dX11_reckonFor_51 : decode cX11_reckonFor 51 = .ok (.ireturn, 1) := by decide +kernel
theorem dX11_isFit_0 : decode cX11_isFit 0 = .ok (.aload_n 2, 1) := by decide +kernel
theorem dX11_isFit_1 : decode cX11_isFit 1 = .ok (.getfield 230, 3) := by decide +kernel
theorem dX11_isFit_4 : decode cX11_isFit 4 = .ok (.ifnonnull 39, 3) := by decide +kernel
theorem dX11_isFit_7 : decode cX11_isFit 7 = .ok (.aload_n 1, 1) := by decide +kernel
theorem dX11_isFit_8 : decode cX11_isFit 8 = .ok (.getfield 123, 3) := by decide +kernel
theorem dX11_isFit_11 : decode cX11_isFit 11 = .ok (.aload_n 2, 1) := by decide +kernel
theorem dX11_isFit_12 : decode cX11_isFit 12 = .ok (.getfield 211, 3) := by decide +kernel
theorem dX11_isFit_15 : decode cX11_isFit 15 = .ok (.invokestatic 270, 3) := by decide +kernel
theorem dX11_isFit_18 : decode cX11_isFit 18 = .ok (.ifCond .eq 25, 3) := by decide +kernel
theorem dX11_isFit_21 : decode cX11_isFit 21 = .ok (.aload_n 0, 1) := by decide +kernel
theorem dX11_isFit_22 : decode cX11_isFit 22 = .ok (.aload_n 2, 1) := by decide +kernel
theorem dX11_isFit_23 : decode cX11_isFit 23 = .ok (.invokevirtual 226, 3) := by decide +kernel
theorem dX11_isFit_26 : decode cX11_isFit 26 = .ok (.ifCond .le 17, 3) := by decide +kernel
theorem dX11_isFit_29 : decode cX11_isFit 29 = .ok (.aload_n 0, 1) := by decide +kernel
theorem dX11_isFit_30 : decode cX11_isFit 30 = .ok (.aload_n 2, 1) := by decide +kernel
theorem dX11_isFit_31 : decode cX11_isFit 31 = .ok (.iconst 1, 1) := by decide +kernel
theorem dX11_isFit_32 : decode cX11_isFit 32 = .ok (.iconst 0, 1) := by decide +kernel
theorem dX11_isFit_33 : decode cX11_isFit 33 = .ok (.invokevirtual 260, 3) := by decide +kernel
theorem dX11_isFit_36 : decode cX11_isFit 36 = .ok (.ifCond .eq 7, 3) := by decide +kernel
theorem dX11_isFit_39 : decode cX11_isFit 39 = .ok (.iconst 1, 1) := by decide +kernel
theorem dX11_isFit_40 : decode cX11_isFit 40 = .ok (.goto 4, 3) := by decide +kernel
theorem dX11_isFit_43 : decode cX11_isFit 43 = .ok (.iconst 0, 1) := by decide +kernel
theorem dX11_isFit_44 : decode cX11_isFit 44 = .ok (.ireturn, 1) := by decide +kernel
theorem dX11_lossOf_0 : decode cX11_lossOf 0 = .ok (.iconst 0, 1) := by decide +kernel
theorem dX11_lossOf_1 : decode cX11_lossOf 1 = .ok (.iload_n 3, 1) := by decide +kernel
theorem dX11_lossOf_2 : decode cX11_lossOf 2 = .ok (.aload_n 2, 1) := by decide +kernel
theorem dX11_lossOf_3 : decode cX11_lossOf 3 = .ok (.invokevirtual 405, 3) := by decide +kernel
theorem dX11_lossOf_6 : decode cX11_lossOf 6 = .ok (.isub, 1) := by decide +kernel
theorem dX11_lossOf_7 : decode cX11_lossOf 7 = .ok (.invokestatic 408, 3) := by decide +kernel
theorem dX11_lossOf_10 : decode cX11_lossOf 10 = .ok (.istore 4, 2) := by decide +kernel
theorem dX11_lossOf_12 : decode cX11_lossOf 12 = .ok (.aload_n 0, 1) := by decide +kernel
theorem dX11_lossOf_13 : decode cX11_lossOf 13 = .ok (.aload_n 1, 1) := by decide +kernel
theorem dX11_lossOf_14 : decode cX11_lossOf 14 = .ok (.iconst 2, 1) := by decide +kernel
theorem dX11_lossOf_15 : decode cX11_lossOf 15 = .ok (.iload 4, 2) := by decide +kernel
theorem dX11_lossOf_17 : decode cX11_lossOf 17 = .ok (.invokevirtual 260, 3) := by decide +kernel
theorem dX11_lossOf_20 : decode cX11_lossOf 20 = .ok (.istore 5, 2) := by decide +kernel
theorem dX11_lossOf_22 : decode cX11_lossOf 22 = .ok (.iconst 0, 1) := by decide +kernel
theorem dX11_lossOf_23 : decode cX11_lossOf 23 = .ok (.iload 5, 2) := by decide +kernel
theorem dX11_lossOf_25 : decode cX11_lossOf 25 = .ok (.invokestatic 408, 3) := by decide +kernel
theorem dX11_lossOf_28 : decode cX11_lossOf 28 = .ok (.aload_n 2, 1) := by decide +kernel
theorem dX11_lossOf_29 : decode cX11_lossOf 29 = .ok (.invokevirtual 343, 3) := by decide +kernel
theorem dX11_lossOf_32 : decode cX11_lossOf 32 = .ok (.invokestatic 413, 3) := by decide +kernel
theorem dX11_lossOf_35 : decode cX11_lossOf 35 = .ok (.ireturn, 1) := by decide +kernel
theorem dX12_isIn_0 : decode cX12_isIn 0 = .ok (.lload_n 0, 1) := by decide +kernel
theorem dX12_isIn_1 : decode cX12_isIn 1 = .ok (.lload_n 2, 1) := by decide +kernel
theorem dX12_isIn_2 : decode cX12_isIn 2 = .ok (.lcmp, 1) := by decide +kernel
theorem dX12_isIn_3 : decode cX12_isIn 3 = .ok (.ifCond .lt 14, 3) := by decide +kernel
theorem dX12_isIn_6 : decode cX12_isIn 6 = .ok (.lload_n 0, 1) := by decide +kernel
theorem dX12_isIn_7 : decode cX12_isIn 7 = .ok (.lload 4, 2) := by decide +kernel
theorem dX12_isIn_9 : decode cX12_isIn 9 = .ok (.lcmp, 1) := by decide +kernel
theorem dX12_isIn_10 : decode cX12_isIn 10 = .ok (.ifCond .gt 7, 3) := by decide +kernel
theorem dX12_isIn_13 : decode cX12_isIn 13 = .ok (.iconst 1, 1) := by decide +kernel
theorem dX12_isIn_14 : decode cX12_isIn 14 = .ok (.goto 4, 3) := by decide +kernel
theorem dX12_isIn_17 : decode cX12_isIn 17 = .ok (.iconst 0, 1) := by decide +kernel
theorem dX12_isIn_18 : decode cX12_isIn 18 = .ok (.ireturn, 1) := by decide +kernel
theorem dX12_isFund_0 : decode cX12_isFund 0 = .ok (.iload_n 1, 1) := by decide +kernel
theorem dX12_isFund_1 : decode cX12_isFund 1 = .ok (.ifCond .lt 15, 3) := by decide +kernel
theorem dX12_isFund_4 : decode cX12_isFund 4 = .ok (.iload_n 1, 1) := by decide +kernel
theorem dX12_isFund_5 : decode cX12_isFund 5 = .ok (.aload_n 0, 1) := by decide +kernel
theorem dX12_isFund_6 : decode cX12_isFund 6 = .ok (.getfield 1, 3) := by decide +kernel
theorem dX12_isFund_9 : decode cX12_isFund 9 = .ok (.if_icmp .ge 7, 3) := by decide +kernel
theorem dX12_isFund_12 : decode cX12_isFund 12 = .ok (.iconst 1, 1) := by decide +kernel
theorem dX12_isFund_13 : decode cX12_isFund 13 = .ok (.goto 4, 3) := by decide +kernel
theorem dX12_isFund_16 : decode cX12_isFund 16 = .ok (.iconst 0, 1) := by decide +kernel
theorem dX12_isFund_17 : decode cX12_isFund 17 = .ok (.ireturn, 1) := by decide +kernel
theorem dX12_isReader_0 : decode cX12_isReader 0 = .ok (.iload_n 1, 1) := by decide +kernel
theorem dX12_isReader_1 : decode cX12_isReader 1 = .ok (.ifCond .lt 15, 3) := by decide +kernel
theorem dX12_isReader_4 : decode cX12_isReader 4 = .ok (.iload_n 1, 1) := by decide +kernel
theorem dX12_isReader_5 : decode cX12_isReader 5 = .ok (.aload_n 0, 1) := by decide +kernel
theorem dX12_isReader_6 : decode cX12_isReader 6 = .ok (.getfield 7, 3) := by decide +kernel
theorem dX12_isReader_9 : decode cX12_isReader 9 = .ok (.if_icmp .ge 7, 3) := by decide +kernel
theorem dX12_isReader_12 : decode cX12_isReader 12 = .ok (.iconst 1, 1) := by decide +kernel
theorem dX12_isReader_13 : decode cX12_isReader 13 = .ok (.goto 4, 3) := by decide +kernel
theorem dX12_isReader_16 : decode cX12_isReader 16 = .ok (.iconst 0, 1) := by decide +kernel
theorem dX12_isReader_17 : decode cX12_isReader 17 = .ok (.ireturn, 1) := by decide +kernel
theorem dX12_isAsking_0 : decode cX12_isAsking 0 = .ok (.iload_n 1, 1) := by decide +kernel
theorem dX12_isAsking_1 : decode cX12_isAsking 1 = .ok (.ifCond .lt 15, 3) := by decide +kernel
theorem dX12_isAsking_4 : decode cX12_isAsking 4 = .ok (.iload_n 1, 1) := by decide +kernel
theorem dX12_isAsking_5 : decode cX12_isAsking 5 = .ok (.aload_n 0, 1) := by decide +kernel
theorem dX12_isAsking_6 : decode cX12_isAsking 6 = .ok (.getfield 10, 3) := by decide +kernel
theorem dX12_isAsking_9 : decode cX12_isAsking 9 = .ok (.if_icmp .ge 7, 3) := by decide +kernel
theorem dX12_isAsking_12 : decode cX12_isAsking 12 = .ok (.iconst 1, 1) := by decide +kernel
theorem dX12_isAsking_13 : decode cX12_isAsking 13 = .ok (.goto 4, 3) := by decide +kernel
theorem dX12_isAsking_16 : decode cX12_isAsking 16 = .ok (.iconst 0, 1) := by decide +kernel
theorem dX12_isAsking_17 : decode cX12_isAsking 17 = .ok (.ireturn, 1) := by decide +kernel
theorem dX12_fund_0 : decode cX12_fund 0 = .ok (.iload_n 1, 1) := by decide +kernel
theorem dX12_fund_1 : decode cX12_fund 1 = .ok (.i2l, 1) := by decide +kernel
theorem dX12_fund_2 : decode cX12_fund 2 = .ok (.lconst 0, 1) := by decide +kernel
theorem dX12_fund_3 : decode cX12_fund 3 = .ok (.ldc2_w 13, 3) := by decide +kernel
theorem dX12_fund_6 : decode cX12_fund 6 = .ok (.invokestatic 15, 3) := by decide +kernel
theorem dX12_fund_9 : decode cX12_fund 9 = .ok (.ifCond .ne 6, 3) := by decide +kernel
theorem dX12_fund_12 : decode cX12_fund 12 = .ok (.bipush (-2), 2) := by decide +kernel
theorem dX12_fund_14 : decode cX12_fund 14 = .ok (.ireturn, 1) := by decide +kernel
theorem dX12_fund_15 : decode cX12_fund 15 = .ok (.aload_n 0, 1) := by decide +kernel
theorem dX12_fund_16 : decode cX12_fund 16 = .ok (.getfield 1, 3) := by decide +kernel
theorem dX12_fund_19 : decode cX12_fund 19 = .ok (.iconst 5, 1) := by decide +kernel
theorem dX12_fund_20 : decode cX12_fund 20 = .ok (.if_icmp .ne 6, 3) := by decide +kernel
theorem dX12_fund_23 : decode cX12_fund 23 = .ok (.bipush (-4), 2) := by decide +kernel
theorem dX12_fund_25 : decode cX12_fund 25 = .ok (.ireturn, 1) := by decide +kernel
theorem dX12_fund_26 : decode cX12_fund 26 = .ok (.aload_n 0, 1) := by decide +kernel
theorem dX12_fund_27 : decode cX12_fund 27 = .ok (.getfield 19, 3) := by decide +kernel
theorem dX12_fund_30 : decode cX12_fund 30 = .ok (.aload_n 0, 1) := by decide +kernel
theorem dX12_fund_31 : decode cX12_fund 31 = .ok (.getfield 1, 3) := by decide +kernel
theorem dX12_fund_34 : decode cX12_fund 34 = .ok (.iload_n 1, 1) := by decide +kernel
theorem dX12_fund_35 : decode cX12_fund 35 = .ok (.iastore, 1) := by decide +kernel
theorem dX12_fund_36 : decode cX12_fund 36 = .ok (.aload_n 0, 1) := by decide +kernel
theorem dX12_fund_37 : decode cX12_fund 37 = .ok (.dup, 1) := by decide +kernel
theorem dX12_fund_38 : decode cX12_fund 38 = .ok (.getfield 1, 3) := by decide +kernel
theorem dX12_fund_41 : decode cX12_fund 41 = .ok (.iconst 1, 1) := by decide +kernel
theorem dX12_fund_42 : decode cX12_fund 42 = .ok (.iadd, 1) := by decide +kernel
theorem dX12_fund_43 : decode cX12_fund 43 = .ok (.putfield 1, 3) := by decide +kernel
theorem dX12_fund_46 : decode cX12_fund 46 = .ok (.aload_n 0, 1) := by decide +kernel
theorem dX12_fund_47 : decode cX12_fund 47 = .ok (.getfield 1, 3) := by decide +kernel
theorem dX12_fund_50 : decode cX12_fund 50 = .ok (.iconst 1, 1) := by decide +kernel
theorem dX12_fund_51 : decode cX12_fund 51 = .ok (.isub, 1) := by decide +kernel
theorem dX12_fund_52 : decode cX12_fund 52 = .ok (.ireturn, 1) := by decide +kernel
theorem dX12_give_0 : decode cX12_give 0 = .ok (.aload_n 0, 1) := by decide +kernel
theorem dX12_give_1 : decode cX12_give 1 = .ok (.iload_n 1, 1) := by decide +kernel
theorem dX12_give_2 : decode cX12_give 2 = .ok (.invokevirtual 23, 3) := by decide +kernel
theorem dX12_give_5 : decode cX12_give 5 = .ok (.ifCond .eq 15, 3) := by decide +kernel
theorem dX12_give_8 : decode cX12_give 8 = .ok (.iload_n 2, 1) := by decide +kernel
theorem dX12_give_9 : decode cX12_give 9 = .ok (.i2l, 1) := by decide +kernel
theorem dX12_give_10 : decode cX12_give 10 = .ok (.lconst 1, 1) := by decide +kernel
theorem dX12_give_11 : decode cX12_give 11 = .ok (.ldc2_w 27, 3) := by decide +kernel
theorem dX12_give_14 : decode cX12_give 14 = .ok (.invokestatic 15, 3) := by decide +kernel
theorem dX12_give_17 : decode cX12_give 17 = .ok (.ifCond .ne 6, 3) := by decide +kernel
theorem dX12_give_20 : decode cX12_give 20 = .ok (.bipush (-2), 2) := by decide +kernel
theorem dX12_give_22 : decode cX12_give 22 = .ok (.ireturn, 1) := by decide +kernel
theorem dX12_give_23 : decode cX12_give 23 = .ok (.aload_n 0, 1) := by decide +kernel
theorem dX12_give_24 : decode cX12_give 24 = .ok (.getfield 29, 3) := by decide +kernel
theorem dX12_give_27 : decode cX12_give 27 = .ok (.iload_n 1, 1) := by decide +kernel
theorem dX12_give_28 : decode cX12_give 28 = .ok (.iaload, 1) := by decide +kernel
theorem dX12_give_29 : decode cX12_give 29 = .ok (.iload_n 2, 1) := by decide +kernel
theorem dX12_give_30 : decode cX12_give 30 = .ok (.iadd, 1) := by decide +kernel
theorem dX12_give_31 : decode cX12_give 31 = .ok (.ldc 32, 2) := by decide +kernel
theorem dX12_give_33 : decode cX12_give 33 = .ok (.if_icmp .le 6, 3) := by decide +kernel
theorem dX12_give_36 : decode cX12_give 36 = .ok (.bipush (-4), 2) := by decide +kernel
theorem dX12_give_38 : decode cX12_give 38 = .ok (.ireturn, 1) := by decide +kernel
theorem dX12_give_39 : decode cX12_give 39 = .ok (.aload_n 0, 1) := by decide +kernel
theorem dX12_give_40 : decode cX12_give 40 = .ok (.getfield 29, 3) := by decide +kernel
theorem dX12_give_43 : decode cX12_give 43 = .ok (.iload_n 1, 1) := by decide +kernel
theorem dX12_give_44 : decode cX12_give 44 = .ok (.dup2, 1) := by decide +kernel
theorem dX12_give_45 : decode cX12_give 45 = .ok (.iaload, 1) := by decide +kernel
theorem dX12_give_46 : decode cX12_give 46 = .ok (.iload_n 2, 1) := by decide +kernel
theorem dX12_give_47 : decode cX12_give 47 = .ok (.iadd, 1) := by decide +kernel
theorem dX12_give_48 : decode cX12_give 48 = .ok (.iastore, 1) := by decide +kernel
theorem dX12_give_49 : decode cX12_give 49 = .ok (.aload_n 0, 1) := by decide +kernel
theorem dX12_give_50 : decode cX12_give 50 = .ok (.getfield 33, 3) := by decide +kernel
theorem dX12_give_53 : decode cX12_give 53 = .ok (.iload_n 1, 1) := by decide +kernel
theorem dX12_give_54 : decode cX12_give 54 = .ok (.dup2, 1) := by decide +kernel
theorem dX12_give_55 : decode cX12_give 55 = .ok (.iaload, 1) := by decide +kernel
theorem dX12_give_56 : decode cX12_give 56 = .ok (.iload_n 2, 1) := by decide +kernel
theorem dX12_give_57 : decode cX12_give 57 = .ok (.iadd, 1) := by decide +kernel
theorem dX12_give_58 : decode cX12_give 58 = .ok (.iastore, 1) := by decide +kernel
theorem dX12_give_59 : decode cX12_give 59 = .ok (.aload_n 0, 1) := by decide +kernel
theorem dX12_give_60 : decode cX12_give 60 = .ok (.getfield 33, 3) := by decide +kernel
theorem dX12_give_63 : decode cX12_give 63 = .ok (.iload_n 1, 1) := by decide +kernel
theorem dX12_give_64 : decode cX12_give 64 = .ok (.iaload, 1) := by decide +kernel
theorem dX12_give_65 : decode cX12_give 65 = .ok (.ireturn, 1) := by decide +kernel
theorem dX12_fundTold_0 : decode cX12_fundTold 0 = .ok (.aload_n 0, 1) := by decide +kernel
theorem dX12_fundTold_1 : decode cX12_fundTold 1 = .ok (.iload_n 1, 1) := by decide +kernel
theorem dX12_fundTold_2 : decode cX12_fundTold 2 = .ok (.invokevirtual 23, 3) := by decide +kernel
theorem dX12_fundTold_5 : decode cX12_fundTold 5 = .ok (.ifCond .ne 6, 3) := by decide +kernel
theorem dX12_fundTold_8 : decode cX12_fundTold 8 = .ok (.bipush (-2), 2) := by decide +kernel
theorem dX12_fundTold_10 : decode cX12_fundTold 10 = .ok (.ireturn, 1) := by decide +kernel
theorem dX12_fundTold_11 : decode cX12_fundTold 11 = .ok (.iload_n 2, 1) := by decide +kernel
theorem dX12_fundTold_12 : decode cX12_fundTold 12 = .ok (.tableswitch 71 0 4 #[36, 43, 50, 57, 64], 36) := by decide +kernel
theorem dX12_fundTold_48 : decode cX12_fundTold 48 = .ok (.aload_n 0, 1) := by decide +kernel
theorem dX12_fundTold_49 : decode cX12_fundTold 49 = .ok (.getfield 19, 3) := by decide +kernel
theorem dX12_fundTold_52 : decode cX12_fundTold 52 = .ok (.iload_n 1, 1) := by decide +kernel
theorem dX12_fundTold_53 : decode cX12_fundTold 53 = .ok (.iaload, 1) := by decide +kernel
theorem dX12_fundTold_54 : decode cX12_fundTold 54 = .ok (.ireturn, 1) := by decide +kernel
theorem dX12_fundTold_55 : decode cX12_fundTold 55 = .ok (.aload_n 0, 1) := by decide +kernel
theorem dX12_fundTold_56 : decode cX12_fundTold 56 = .ok (.getfield 29, 3) := by decide +kernel
theorem dX12_fundTold_59 : decode cX12_fundTold 59 = .ok (.iload_n 1, 1) := by decide +kernel
theorem dX12_fundTold_60 : decode cX12_fundTold 60 = .ok (.iaload, 1) := by decide +kernel
theorem dX12_fundTold_61 : decode cX12_fundTold 61 = .ok (.ireturn, 1) := by decide +kernel
theorem dX12_fundTold_62 : decode cX12_fundTold 62 = .ok (.aload_n 0, 1) := by decide +kernel
theorem dX12_fundTold_63 : decode cX12_fundTold 63 = .ok (.getfield 33, 3) := by decide +kernel
theorem dX12_fundTold_66 : decode cX12_fundTold 66 = .ok (.iload_n 1, 1) := by decide +kernel
theorem dX12_fundTold_67 : decode cX12_fundTold 67 = .ok (.iaload, 1) := by decide +kernel
theorem dX12_fundTold_68 : decode cX12_fundTold 68 = .ok (.ireturn, 1) := by decide +kernel
theorem dX12_fundTold_69 : decode cX12_fundTold 69 = .ok (.aload_n 0, 1) := by decide +kernel
theorem dX12_fundTold_70 : decode cX12_fundTold 70 = .ok (.getfield 36, 3) := by decide +kernel
theorem dX12_fundTold_73 : decode cX12_fundTold 73 = .ok (.iload_n 1, 1) := by decide +kernel
theorem dX12_fundTold_74 : decode cX12_fundTold 74 = .ok (.iaload, 1) := by decide +kernel
theorem dX12_fundTold_75 : decode cX12_fundTold 75 = .ok (.ireturn, 1) := by decide +kernel
theorem dX12_fundTold_76 : decode cX12_fundTold 76 = .ok (.aload_n 0, 1) := by decide +kernel
theorem dX12_fundTold_77 : decode cX12_fundTold 77 = .ok (.getfield 39, 3) := by decide +kernel
theorem dX12_fundTold_80 : decode cX12_fundTold 80 = .ok (.iload_n 1, 1) := by decide +kernel
theorem dX12_fundTold_81 : decode cX12_fundTold 81 = .ok (.iaload, 1) := by decide +kernel
theorem dX12_fundTold_82 : decode cX12_fundTold 82 = .ok (.ireturn, 1) := by decide +kernel
theorem dX12_fundTold_83 : decode cX12_fundTold 83 = .ok (.bipush (-2), 2) := by decide +kernel
theorem dX12_fundTold_85 : decode cX12_fundTold 85 = .ok (.ireturn, 1) := by decide +kernel
theorem dX12_reader_0 : decode cX12_reader 0 = .ok (.iload_n 1, 1) := by decide +kernel
theorem dX12_reader_1 : decode cX12_reader 1 = .ok (.i2l, 1) := by decide +kernel
theorem dX12_reader_2 : decode cX12_reader 2 = .ok (.lconst 0, 1) := by decide +kernel
theorem dX12_reader_3 : decode cX12_reader 3 = .ok (.ldc2_w 13, 3) := by decide +kernel
theorem dX12_reader_6 : decode cX12_reader 6 = .ok (.invokestatic 15, 3) := by decide +kernel
theorem dX12_reader_9 : decode cX12_reader 9 = .ok (.ifCond .eq 27, 3) := by decide +kernel
theorem dX12_reader_12 : decode cX12_reader 12 = .ok (.iload_n 2, 1) := by decide +kernel
theorem dX12_reader_13 : decode cX12_reader 13 = .ok (.i2l, 1) := by decide +kernel
theorem dX12_reader_14 : decode cX12_reader 14 = .ok (.lconst 0, 1) := by decide +kernel
theorem dX12_reader_15 : decode cX12_reader 15 = .ok (.ldc2_w 42, 3) := by decide +kernel
theorem dX12_reader_18 : decode cX12_reader 18 = .ok (.invokestatic 15, 3) := by decide +kernel
theorem dX12_reader_21 : decode cX12_reader 21 = .ok (.ifCond .eq 15, 3) := by decide +kernel
theorem dX12_reader_24 : decode cX12_reader 24 = .ok (.iload_n 3, 1) := by decide +kernel
theorem dX12_reader_25 : decode cX12_reader 25 = .ok (.i2l, 1) := by decide +kernel
theorem dX12_reader_26 : decode cX12_reader 26 = .ok (.lconst 1, 1) := by decide +kernel
theorem dX12_reader_27 : decode cX12_reader 27 = .ok (.ldc2_w 44, 3) := by decide +kernel
theorem dX12_reader_30 : decode cX12_reader 30 = .ok (.invokestatic 15, 3) := by decide +kernel
theorem dX12_reader_33 : decode cX12_reader 33 = .ok (.ifCond .ne 6, 3) := by decide +kernel
theorem dX12_reader_36 : decode cX12_reader 36 = .ok (.bipush (-2), 2) := by decide +kernel
theorem dX12_reader_38 : decode cX12_reader 38 = .ok (.ireturn, 1) := by decide +kernel
theorem dX12_reader_39 : decode cX12_reader 39 = .ok (.aload_n 0, 1) := by decide +kernel
theorem dX12_reader_40 : decode cX12_reader 40 = .ok (.getfield 7, 3) := by decide +kernel
theorem dX12_reader_43 : decode cX12_reader 43 = .ok (.bipush 8, 2) := by decide +kernel
theorem dX12_reader_45 : decode cX12_reader 45 = .ok (.if_icmp .ne 6, 3) := by decide +kernel
theorem dX12_reader_48 : decode cX12_reader 48 = .ok (.bipush (-4), 2) := by decide +kernel
theorem dX12_reader_50 : decode cX12_reader 50 = .ok (.ireturn, 1) := by decide +kernel
theorem dX12_reader_51 : decode cX12_reader 51 = .ok (.aload_n 0, 1) := by decide +kernel
theorem dX12_reader_52 : decode cX12_reader 52 = .ok (.getfield 46, 3) := by decide +kernel
theorem dX12_reader_55 : decode cX12_reader 55 = .ok (.aload_n 0, 1) := by decide +kernel
theorem dX12_reader_56 : decode cX12_reader 56 = .ok (.getfield 7, 3) := by decide +kernel
theorem dX12_reader_59 : decode cX12_reader 59 = .ok (.iload_n 1, 1) := by decide +kernel
theorem dX12_reader_60 : decode cX12_reader 60 = .ok (.iastore, 1) := by decide +kernel
theorem dX12_reader_61 : decode cX12_reader 61 = .ok (.aload_n 0, 1) := by decide +kernel
theorem dX12_reader_62 : decode cX12_reader 62 = .ok (.getfield 49, 3) := by decide +kernel
theorem dX12_reader_65 : decode cX12_reader 65 = .ok (.aload_n 0, 1) := by decide +kernel
theorem dX12_reader_66 : decode cX12_reader 66 = .ok (.getfield 7, 3) := by decide +kernel
theorem dX12_reader_69 : decode cX12_reader 69 = .ok (.iload_n 2, 1) := by decide +kernel
theorem dX12_reader_70 : decode cX12_reader 70 = .ok (.iastore, 1) := by decide +kernel
theorem dX12_reader_71 : decode cX12_reader 71 = .ok (.aload_n 0, 1) := by decide +kernel
theorem dX12_reader_72 : decode cX12_reader 72 = .ok (.getfield 52, 3) := by decide +kernel
theorem dX12_reader_75 : decode cX12_reader 75 = .ok (.aload_n 0, 1) := by decide +kernel
theorem dX12_reader_76 : decode cX12_reader 76 = .ok (.getfield 7, 3) := by decide +kernel
theorem dX12_reader_79 : decode cX12_reader 79 = .ok (.iload_n 3, 1) := by decide +kernel
theorem dX12_reader_80 : decode cX12_reader 80 = .ok (.iastore, 1) := by decide +kernel
theorem dX12_reader_81 : decode cX12_reader 81 = .ok (.aload_n 0, 1) := by decide +kernel
theorem dX12_reader_82 : decode cX12_reader 82 = .ok (.dup, 1) := by decide +kernel
theorem dX12_reader_83 : decode cX12_reader 83 = .ok (.getfield 7, 3) := by decide +kernel
theorem dX12_reader_86 : decode cX12_reader 86 = .ok (.iconst 1, 1) := by decide +kernel
theorem dX12_reader_87 : decode cX12_reader 87 = .ok (.iadd, 1) := by decide +kernel
theorem dX12_reader_88 : decode cX12_reader 88 = .ok (.putfield 7, 3) := by decide +kernel
theorem dX12_reader_91 : decode cX12_reader 91 = .ok (.aload_n 0, 1) := by decide +kernel
theorem dX12_reader_92 : decode cX12_reader 92 = .ok (.getfield 7, 3) := by decide +kernel
theorem dX12_reader_95 : decode cX12_reader 95 = .ok (.iconst 1, 1) := by decide +kernel
theorem dX12_reader_96 : decode cX12_reader 96 = .ok (.isub, 1) := by decide +kernel
theorem dX12_reader_97 : decode cX12_reader 97 = .ok (.ireturn, 1) := by decide +kernel
theorem dX12_reads_0 : decode cX12_reads 0 = .ok (.iconst 0, 1) := by decide +kernel
theorem dX12_reads_1 : decode cX12_reads 1 = .ok (.istore_n 2, 1) := by decide +kernel
theorem dX12_reads_2 : decode cX12_reads 2 = .ok (.iconst 0, 1) := by decide +kernel
theorem dX12_reads_3 : decode cX12_reads 3 = .ok (.istore_n 3, 1) := by decide +kernel
theorem dX12_reads_4 : decode cX12_reads 4 = .ok (.iload_n 3, 1) := by decide +kernel
theorem dX12_reads_5 : decode cX12_reads 5 = .ok (.aload_n 0, 1) := by decide +kernel
theorem dX12_reads_6 : decode cX12_reads 6 = .ok (.getfield 10, 3) := by decide +kernel
theorem dX12_reads_9 : decode cX12_reads 9 = .ok (.if_icmp .ge 22, 3) := by decide +kernel
theorem dX12_reads_12 : decode cX12_reads 12 = .ok (.iload_n 2, 1) := by decide +kernel
theorem dX12_reads_13 : decode cX12_reads 13 = .ok (.aload_n 0, 1) := by decide +kernel
theorem dX12_reads_14 : decode cX12_reads 14 = .ok (.getfield 55, 3) := by decide +kernel
theorem dX12_reads_17 : decode cX12_reads 17 = .ok (.iload_n 3, 1) := by decide +kernel
theorem dX12_reads_18 : decode cX12_reads 18 = .ok (.iaload, 1) := by decide +kernel
theorem dX12_reads_19 : decode cX12_reads 19 = .ok (.iload_n 1, 1) := by decide +kernel
theorem dX12_reads_20 : decode cX12_reads 20 = .ok (.ishr, 1) := by decide +kernel
theorem dX12_reads_21 : decode cX12_reads 21 = .ok (.iconst 1, 1) := by decide +kernel
theorem dX12_reads_22 : decode cX12_reads 22 = .ok (.iand, 1) := by decide +kernel
theorem dX12_reads_23 : decode cX12_reads 23 = .ok (.iadd, 1) := by decide +kernel
theorem dX12_reads_24 : decode cX12_reads 24 = .ok (.istore_n 2, 1) := by decide +kernel
theorem dX12_reads_25 : decode cX12_reads 25 = .ok (.iinc 3 1, 3) := by decide +kernel
theorem dX12_reads_28 : decode cX12_reads 28 = .ok (.goto (-24), 3) := by decide +kernel
theorem dX12_reads_31 : decode cX12_reads 31 = .ok (.iload_n 2, 1) := by decide +kernel
theorem dX12_reads_32 : decode cX12_reads 32 = .ok (.ireturn, 1) := by decide +kernel
theorem dX12_readerTold_0 : decode cX12_readerTold 0 = .ok (.aload_n 0, 1) := by decide +kernel
theorem dX12_readerTold_1 : decode cX12_readerTold 1 = .ok (.iload_n 1, 1) := by decide +kernel
theorem dX12_readerTold_2 : decode cX12_readerTold 2 = .ok (.invokevirtual 58, 3) := by decide +kernel
theorem dX12_readerTold_5 : decode cX12_readerTold 5 = .ok (.ifCond .ne 6, 3) := by decide +kernel
theorem dX12_readerTold_8 : decode cX12_readerTold 8 = .ok (.bipush (-2), 2) := by decide +kernel
theorem dX12_readerTold_10 : decode cX12_readerTold 10 = .ok (.ireturn, 1) := by decide +kernel
theorem dX12_readerTold_11 : decode cX12_readerTold 11 = .ok (.iload_n 2, 1) := by decide +kernel
theorem dX12_readerTold_12 : decode cX12_readerTold 12 = .ok (.tableswitch 70 0 4 #[36, 43, 50, 57, 63], 36) := by decide +kernel
theorem dX12_readerTold_48 : decode cX12_readerTold 48 = .ok (.aload_n 0, 1) := by decide +kernel
theorem dX12_readerTold_49 : decode cX12_readerTold 49 = .ok (.getfield 46, 3) := by decide +kernel
theorem dX12_readerTold_52 : decode cX12_readerTold 52 = .ok (.iload_n 1, 1) := by decide +kernel
theorem dX12_readerTold_53 : decode cX12_readerTold 53 = .ok (.iaload, 1) := by decide +kernel
theorem dX12_readerTold_54 : decode cX12_readerTold 54 = .ok (.ireturn, 1) := by decide +kernel
theorem dX12_readerTold_55 : decode cX12_readerTold 55 = .ok (.aload_n 0, 1) := by decide +kernel
theorem dX12_readerTold_56 : decode cX12_readerTold 56 = .ok (.getfield 49, 3) := by decide +kernel
theorem dX12_readerTold_59 : decode cX12_readerTold 59 = .ok (.iload_n 1, 1) := by decide +kernel
theorem dX12_readerTold_60 : decode cX12_readerTold 60 = .ok (.iaload, 1) := by decide +kernel
theorem dX12_readerTold_61 : decode cX12_readerTold 61 = .ok (.ireturn, 1) := by decide +kernel
theorem dX12_readerTold_62 : decode cX12_readerTold 62 = .ok (.aload_n 0, 1) := by decide +kernel
theorem dX12_readerTold_63 : decode cX12_readerTold 63 = .ok (.getfield 52, 3) := by decide +kernel
theorem dX12_readerTold_66 : decode cX12_readerTold 66 = .ok (.iload_n 1, 1) := by decide +kernel
theorem dX12_readerTold_67 : decode cX12_readerTold 67 = .ok (.iaload, 1) := by decide +kernel
theorem dX12_readerTold_68 : decode cX12_readerTold 68 = .ok (.ireturn, 1) := by decide +kernel
theorem dX12_readerTold_69 : decode cX12_readerTold 69 = .ok (.aload_n 0, 1) := by decide +kernel
theorem dX12_readerTold_70 : decode cX12_readerTold 70 = .ok (.iload_n 1, 1) := by decide +kernel
theorem dX12_readerTold_71 : decode cX12_readerTold 71 = .ok (.invokevirtual 61, 3) := by decide +kernel
theorem dX12_readerTold_74 : decode cX12_readerTold 74 = .ok (.ireturn, 1) := by decide +kernel
theorem dX12_readerTold_75 : decode cX12_readerTold 75 = .ok (.aload_n 0, 1) := by decide +kernel
theorem dX12_readerTold_76 : decode cX12_readerTold 76 = .ok (.iload_n 1, 1) := by decide +kernel
theorem dX12_readerTold_77 : decode cX12_readerTold 77 = .ok (.iconst (-1), 1) := by decide +kernel
theorem dX12_readerTold_78 : decode cX12_readerTold 78 = .ok (.invokevirtual 65, 3) := by decide +kernel
theorem dX12_readerTold_81 : decode cX12_readerTold 81 = .ok (.ireturn, 1) := by decide +kernel
theorem dX12_readerTold_82 : decode cX12_readerTold 82 = .ok (.bipush (-2), 2) := by decide +kernel
theorem dX12_readerTold_84 : decode cX12_readerTold 84 = .ok (.ireturn, 1) := by decide +kernel
theorem dX12_needOf_0 : decode cX12_needOf 0 = .ok (.iload_n 0, 1) := by decide +kernel
theorem dX12_needOf_1 : decode cX12_needOf 1 = .ok (.ifCond .eq 8, 3) := by decide +kernel
theorem dX12_needOf_4 : decode cX12_needOf 4 = .ok (.iload_n 0, 1) := by decide +kernel
theorem dX12_needOf_5 : decode cX12_needOf 5 = .ok (.iconst 4, 1) := by decide +kernel
theorem dX12_needOf_6 : decode cX12_needOf 6 = .ok (.if_icmp .ne 7, 3) := by decide +kernel
theorem dX12_needOf_9 : decode cX12_needOf 9 = .ok (.iconst 2, 1) := by decide +kernel
theorem dX12_needOf_10 : decode cX12_needOf 10 = .ok (.goto 18, 3) := by decide +kernel
theorem dX12_needOf_13 : decode cX12_needOf 13 = .ok (.iload_n 0, 1) := by decide +kernel
theorem dX12_needOf_14 : decode cX12_needOf 14 = .ok (.iconst 1, 1) := by decide +kernel
theorem dX12_needOf_15 : decode cX12_needOf 15 = .ok (.if_icmp .eq 8, 3) := by decide +kernel
theorem dX12_needOf_18 : decode cX12_needOf 18 = .ok (.iload_n 0, 1) := by decide +kernel
theorem dX12_needOf_19 : decode cX12_needOf 19 = .ok (.iconst 5, 1) := by decide +kernel
theorem dX12_needOf_20 : decode cX12_needOf 20 = .ok (.if_icmp .ne 7, 3) := by decide +kernel
theorem dX12_needOf_23 : decode cX12_needOf 23 = .ok (.iconst 1, 1) := by decide +kernel
theorem dX12_needOf_24 : decode cX12_needOf 24 = .ok (.goto 4, 3) := by decide +kernel
theorem dX12_needOf_27 : decode cX12_needOf 27 = .ok (.iconst 3, 1) := by decide +kernel
theorem dX12_needOf_28 : decode cX12_needOf 28 = .ok (.ireturn, 1) := by decide +kernel
theorem dX12_ask_0 : decode cX12_ask 0 = .ok (.iload_n 1, 1) := by decide +kernel
theorem dX12_ask_1 : decode cX12_ask 1 = .ok (.i2l, 1) := by decide +kernel
theorem dX12_ask_2 : decode cX12_ask 2 = .ok (.lconst 0, 1) := by decide +kernel
theorem dX12_ask_3 : decode cX12_ask 3 = .ok (.ldc2_w 69, 3) := by decide +kernel
theorem dX12_ask_6 : decode cX12_ask 6 = .ok (.invokestatic 15, 3) := by decide +kernel
theorem dX12_ask_9 : decode cX12_ask 9 = .ok (.ifCond .eq 75, 3) := by decide +kernel
theorem dX12_ask_12 : decode cX12_ask 12 = .ok (.iload_n 2, 1) := by decide +kernel
theorem dX12_ask_13 : decode cX12_ask 13 = .ok (.i2l, 1) := by decide +kernel
theorem dX12_ask_14 : decode cX12_ask 14 = .ok (.lconst 0, 1) := by decide +kernel
theorem dX12_ask_15 : decode cX12_ask 15 = .ok (.ldc2_w 42, 3) := by decide +kernel
theorem dX12_ask_18 : decode cX12_ask 18 = .ok (.invokestatic 15, 3) := by decide +kernel
theorem dX12_ask_21 : decode cX12_ask 21 = .ok (.ifCond .eq 63, 3) := by decide +kernel
theorem dX12_ask_24 : decode cX12_ask 24 = .ok (.iload_n 1, 1) := by decide +kernel
theorem dX12_ask_25 : decode cX12_ask 25 = .ok (.iconst 3, 1) := by decide +kernel
theorem dX12_ask_26 : decode cX12_ask 26 = .ok (.if_icmp .ne 15, 3) := by decide +kernel
theorem dX12_ask_29 : decode cX12_ask 29 = .ok (.iload_n 3, 1) := by decide +kernel
theorem dX12_ask_30 : decode cX12_ask 30 = .ok (.i2l, 1) := by decide +kernel
theorem dX12_ask_31 : decode cX12_ask 31 = .ok (.lconst 0, 1) := by decide +kernel
theorem dX12_ask_32 : decode cX12_ask 32 = .ok (.ldc2_w 42, 3) := by decide +kernel
theorem dX12_ask_35 : decode cX12_ask 35 = .ok (.invokestatic 15, 3) := by decide +kernel
theorem dX12_ask_38 : decode cX12_ask 38 = .ok (.ifCond .eq 46, 3) := by decide +kernel
theorem dX12_ask_41 : decode cX12_ask 41 = .ok (.iload 4, 2) := by decide +kernel
theorem dX12_ask_43 : decode cX12_ask 43 = .ok (.i2l, 1) := by decide +kernel
theorem dX12_ask_44 : decode cX12_ask 44 = .ok (.lconst 0, 1) := by decide +kernel
theorem dX12_ask_45 : decode cX12_ask 45 = .ok (.ldc2_w 69, 3) := by decide +kernel
theorem dX12_ask_48 : decode cX12_ask 48 = .ok (.invokestatic 15, 3) := by decide +kernel
theorem dX12_ask_51 : decode cX12_ask 51 = .ok (.ifCond .eq 33, 3) := by decide +kernel
theorem dX12_ask_54 : decode cX12_ask 54 = .ok (.iload 5, 2) := by decide +kernel
theorem dX12_ask_56 : decode cX12_ask 56 = .ok (.i2l, 1) := by decide +kernel
theorem dX12_ask_57 : decode cX12_ask 57 = .ok (.lconst 1, 1) := by decide +kernel
theorem dX12_ask_58 : decode cX12_ask 58 = .ok (.ldc2_w 71, 3) := by decide +kernel
theorem dX12_ask_61 : decode cX12_ask 61 = .ok (.invokestatic 15, 3) := by decide +kernel
theorem dX12_ask_64 : decode cX12_ask 64 = .ok (.ifCond .eq 20, 3) := by decide +kernel
theorem dX12_ask_67 : decode cX12_ask 67 = .ok (.iload 6, 2) := by decide +kernel
theorem dX12_ask_69 : decode cX12_ask 69 = .ok (.i2l, 1) := by decide +kernel
theorem dX12_ask_70 : decode cX12_ask 70 = .ok (.lconst 0, 1) := by decide +kernel
theorem dX12_ask_71 : decode cX12_ask 71 = .ok (.ldc2_w 73, 3) := by decide +kernel
theorem dX12_ask_74 : decode cX12_ask 74 = .ok (.invokestatic 15, 3) := by decide +kernel
theorem dX12_ask_77 : decode cX12_ask 77 = .ok (.ifCond .eq 7, 3) := by decide +kernel
theorem dX12_ask_80 : decode cX12_ask 80 = .ok (.iconst 1, 1) := by decide +kernel
theorem dX12_ask_81 : decode cX12_ask 81 = .ok (.goto 4, 3) := by decide +kernel
theorem dX12_ask_84 : decode cX12_ask 84 = .ok (.iconst 0, 1) := by decide +kernel
theorem dX12_ask_85 : decode cX12_ask 85 = .ok (.istore 7, 2) := by decide +kernel
theorem dX12_ask_87 : decode cX12_ask 87 = .ok (.iload 7, 2) := by decide +kernel
theorem dX12_ask_89 : decode cX12_ask 89 = .ok (.ifCond .ne 6, 3) := by decide +kernel
theorem dX12_ask_92 : decode cX12_ask 92 = .ok (.bipush (-2), 2) := by decide +kernel
theorem dX12_ask_94 : decode cX12_ask 94 = .ok (.ireturn, 1) := by decide +kernel
theorem dX12_ask_95 : decode cX12_ask 95 = .ok (.aload_n 0, 1) := by decide +kernel
theorem dX12_ask_96 : decode cX12_ask 96 = .ok (.aload_n 0, 1) := by decide +kernel
theorem dX12_ask_97 : decode cX12_ask 97 = .ok (.getfield 75, 3) := by decide +kernel
theorem dX12_ask_100 : decode cX12_ask 100 = .ok (.iconst 0, 1) := by decide +kernel
theorem dX12_ask_101 : decode cX12_ask 101 = .ok (.iload_n 1, 1) := by decide +kernel
theorem dX12_ask_102 : decode cX12_ask 102 = .ok (.iload 5, 2) := by decide +kernel
theorem dX12_ask_104 : decode cX12_ask 104 = .ok (.iload 4, 2) := by decide +kernel
theorem dX12_ask_106 : decode cX12_ask 106 = .ok (.iload 6, 2) := by decide +kernel
theorem dX12_ask_108 : decode cX12_ask 108 = .ok (.iconst 0, 1) := by decide +kernel
theorem dX12_ask_109 : decode cX12_ask 109 = .ok (.iconst 0, 1) := by decide +kernel
theorem dX12_ask_110 : decode cX12_ask 110 = .ok (.iconst 0, 1) := by decide +kernel
theorem dX12_ask_111 : decode cX12_ask 111 = .ok (.invokevirtual 78, 3) := by decide +kernel
theorem dX12_ask_114 : decode cX12_ask 114 = .ok (.ifCond .ne 6, 3) := by decide +kernel
theorem dX12_ask_117 : decode cX12_ask 117 = .ok (.bipush (-3), 2) := by decide +kernel
theorem dX12_ask_119 : decode cX12_ask 119 = .ok (.ireturn, 1) := by decide +kernel
theorem dX12_ask_120 : decode cX12_ask 120 = .ok (.aload_n 0, 1) := by decide +kernel
theorem dX12_ask_121 : decode cX12_ask 121 = .ok (.getfield 10, 3) := by decide +kernel
theorem dX12_ask_124 : decode cX12_ask 124 = .ok (.bipush 14, 2) := by decide +kernel
theorem dX12_ask_126 : decode cX12_ask 126 = .ok (.if_icmp .ne 6, 3) := by decide +kernel
theorem dX12_ask_129 : decode cX12_ask 129 = .ok (.bipush (-4), 2) := by decide +kernel
theorem dX12_ask_131 : decode cX12_ask 131 = .ok (.ireturn, 1) := by decide +kernel
theorem dX12_ask_132 : decode cX12_ask 132 = .ok (.aload_n 0, 1) := by decide +kernel
theorem dX12_ask_133 : decode cX12_ask 133 = .ok (.getfield 82, 3) := by decide +kernel
theorem dX12_ask_136 : decode cX12_ask 136 = .ok (.aload_n 0, 1) := by decide +kernel
theorem dX12_ask_137 : decode cX12_ask 137 = .ok (.getfield 10, 3) := by decide +kernel
theorem dX12_ask_140 : decode cX12_ask 140 = .ok (.iload_n 1, 1) := by decide +kernel
theorem dX12_ask_141 : decode cX12_ask 141 = .ok (.iastore, 1) := by decide +kernel
theorem dX12_ask_142 : decode cX12_ask 142 = .ok (.aload_n 0, 1) := by decide +kernel
theorem dX12_ask_143 : decode cX12_ask 143 = .ok (.getfield 85, 3) := by decide +kernel
theorem dX12_ask_146 : decode cX12_ask 146 = .ok (.aload_n 0, 1) := by decide +kernel
theorem dX12_ask_147 : decode cX12_ask 147 = .ok (.getfield 10, 3) := by decide +kernel
theorem dX12_ask_150 : decode cX12_ask 150 = .ok (.iload_n 2, 1) := by decide +kernel
theorem dX12_ask_151 : decode cX12_ask 151 = .ok (.iastore, 1) := by decide +kernel
theorem dX12_ask_152 : decode cX12_ask 152 = .ok (.aload_n 0, 1) := by decide +kernel
theorem dX12_ask_153 : decode cX12_ask 153 = .ok (.getfield 88, 3) := by decide +kernel
theorem dX12_ask_156 : decode cX12_ask 156 = .ok (.aload_n 0, 1) := by decide +kernel
theorem dX12_ask_157 : decode cX12_ask 157 = .ok (.getfield 10, 3) := by decide +kernel
theorem dX12_ask_160 : decode cX12_ask 160 = .ok (.iload_n 1, 1) := by decide +kernel
theorem dX12_ask_161 : decode cX12_ask 161 = .ok (.iconst 3, 1) := by decide +kernel
theorem dX12_ask_162 : decode cX12_ask 162 = .ok (.if_icmp .ne 7, 3) := by decide +kernel
theorem dX12_ask_165 : decode cX12_ask 165 = .ok (.iload_n 3, 1) := by decide +kernel
theorem dX12_ask_166 : decode cX12_ask 166 = .ok (.goto 4, 3) := by decide +kernel
theorem dX12_ask_169 : decode cX12_ask 169 = .ok (.iconst (-1), 1) := by decide +kernel
theorem dX12_ask_170 : decode cX12_ask 170 = .ok (.iastore, 1) := by decide +kernel
theorem dX12_ask_171 : decode cX12_ask 171 = .ok (.aload_n 0, 1) := by decide +kernel
theorem dX12_ask_172 : decode cX12_ask 172 = .ok (.getfield 91, 3) := by decide +kernel
theorem dX12_ask_175 : decode cX12_ask 175 = .ok (.aload_n 0, 1) := by decide +kernel
theorem dX12_ask_176 : decode cX12_ask 176 = .ok (.getfield 10, 3) := by decide +kernel
theorem dX12_ask_179 : decode cX12_ask 179 = .ok (.iload 4, 2) := by decide +kernel
theorem dX12_ask_181 : decode cX12_ask 181 = .ok (.iastore, 1) := by decide +kernel
theorem dX12_ask_182 : decode cX12_ask 182 = .ok (.aload_n 0, 1) := by decide +kernel
theorem dX12_ask_183 : decode cX12_ask 183 = .ok (.getfield 94, 3) := by decide +kernel
theorem dX12_ask_186 : decode cX12_ask 186 = .ok (.aload_n 0, 1) := by decide +kernel
theorem dX12_ask_187 : decode cX12_ask 187 = .ok (.getfield 10, 3) := by decide +kernel
theorem dX12_ask_190 : decode cX12_ask 190 = .ok (.iload 5, 2) := by decide +kernel
theorem dX12_ask_192 : decode cX12_ask 192 = .ok (.iastore, 1) := by decide +kernel
theorem dX12_ask_193 : decode cX12_ask 193 = .ok (.aload_n 0, 1) := by decide +kernel
theorem dX12_ask_194 : decode cX12_ask 194 = .ok (.getfield 97, 3) := by decide +kernel
theorem dX12_ask_197 : decode cX12_ask 197 = .ok (.aload_n 0, 1) := by decide +kernel
theorem dX12_ask_198 : decode cX12_ask 198 = .ok (.getfield 10, 3) := by decide +kernel
theorem dX12_ask_201 : decode cX12_ask 201 = .ok (.iload 6, 2) := by decide +kernel
theorem dX12_ask_203 : decode cX12_ask 203 = .ok (.iastore, 1) := by decide +kernel
theorem dX12_ask_204 : decode cX12_ask 204 = .ok (.aload_n 0, 1) := by decide +kernel
theorem dX12_ask_205 : decode cX12_ask 205 = .ok (.getfield 100, 3) := by decide +kernel
theorem dX12_ask_208 : decode cX12_ask 208 = .ok (.aload_n 0, 1) := by decide +kernel
theorem dX12_ask_209 : decode cX12_ask 209 = .ok (.getfield 10, 3) := by decide +kernel
theorem dX12_ask_212 : decode cX12_ask 212 = .ok (.aload_n 0, 1) := by decide +kernel
theorem dX12_ask_213 : decode cX12_ask 213 = .ok (.getfield 75, 3) := by decide +kernel
theorem dX12_ask_216 : decode cX12_ask 216 = .ok (.iastore, 1) := by decide +kernel
theorem dX12_ask_217 : decode cX12_ask 217 = .ok (.aload_n 0, 1) := by decide +kernel
theorem dX12_ask_218 : decode cX12_ask 218 = .ok (.getfield 103, 3) := by decide +kernel
theorem dX12_ask_221 : decode cX12_ask 221 = .ok (.aload_n 0, 1) := by decide +kernel
theorem dX12_ask_222 : decode cX12_ask 222 = .ok (.getfield 10, 3) := by decide +kernel
theorem dX12_ask_225 : decode cX12_ask 225 = .ok (.iconst (-1), 1) := by decide +kernel
theorem dX12_ask_226 : decode cX12_ask 226 = .ok (.iastore, 1) := by decide +kernel
theorem dX12_ask_227 : decode cX12_ask 227 = .ok (.iconst 0, 1) := by decide +kernel
theorem dX12_ask_228 : decode cX12_ask 228 = .ok (.istore 8, 2) := by decide +kernel
theorem dX12_ask_230 : decode cX12_ask 230 = .ok (.iload 8, 2) := by decide +kernel
theorem dX12_ask_232 : decode cX12_ask 232 = .ok (.bipush 8, 2) := by decide +kernel
theorem dX12_ask_234 : decode cX12_ask 234 = .ok (.if_icmp .ge 25, 3) := by decide +kernel
theorem dX12_ask_237 : decode cX12_ask 237 = .ok (.aload_n 0, 1) := by decide +kernel
theorem dX12_ask_238 : decode cX12_ask 238 = .ok (.getfield 106, 3) := by decide +kernel
theorem dX12_ask_241 : decode cX12_ask 241 = .ok (.bipush 8, 2) := by decide +kernel
theorem dX12_ask_243 : decode cX12_ask 243 = .ok (.aload_n 0, 1) := by decide +kernel
theorem dX12_ask_244 : decode cX12_ask 244 = .ok (.getfield 10, 3) := by decide +kernel
theorem dX12_ask_247 : decode cX12_ask 247 = .ok (.imul, 1) := by decide +kernel
theorem dX12_ask_248 : decode cX12_ask 248 = .ok (.iload 8, 2) := by decide +kernel
theorem dX12_ask_250 : decode cX12_ask 250 = .ok (.iadd, 1) := by decide +kernel
theorem dX12_ask_251 : decode cX12_ask 251 = .ok (.iconst (-1), 1) := by decide +kernel
theorem dX12_ask_252 : decode cX12_ask 252 = .ok (.iastore, 1) := by decide +kernel
theorem dX12_ask_253 : decode cX12_ask 253 = .ok (.iinc 8 1, 3) := by decide +kernel
theorem dX12_ask_256 : decode cX12_ask 256 = .ok (.goto (-26), 3) := by decide +kernel
theorem dX12_ask_259 : decode cX12_ask 259 = .ok (.aload_n 0, 1) := by decide +kernel
theorem dX12_ask_260 : decode cX12_ask 260 = .ok (.dup, 1) := by decide +kernel
theorem dX12_ask_261 : decode cX12_ask 261 = .ok (.getfield 10, 3) := by decide +kernel
theorem dX12_ask_264 : decode cX12_ask 264 = .ok (.iconst 1, 1) := by decide +kernel
theorem dX12_ask_265 : decode cX12_ask 265 = .ok (.iadd, 1) := by decide +kernel
theorem dX12_ask_266 : decode cX12_ask 266 = .ok (.putfield 10, 3) := by decide +kernel
theorem dX12_ask_269 : decode cX12_ask 269 = .ok (.aload_n 0, 1) := by decide +kernel
theorem dX12_ask_270 : decode cX12_ask 270 = .ok (.getfield 10, 3) := by decide +kernel
theorem dX12_ask_273 : decode cX12_ask 273 = .ok (.iconst 1, 1) := by decide +kernel
theorem dX12_ask_274 : decode cX12_ask 274 = .ok (.isub, 1) := by decide +kernel
theorem dX12_ask_275 : decode cX12_ask 275 = .ok (.ireturn, 1) := by decide +kernel
theorem dX12_asks_0 : decode cX12_asks 0 = .ok (.iload_n 1, 1) := by decide +kernel
theorem dX12_asks_1 : decode cX12_asks 1 = .ok (.i2l, 1) := by decide +kernel
theorem dX12_asks_2 : decode cX12_asks 2 = .ok (.lconst 0, 1) := by decide +kernel
theorem dX12_asks_3 : decode cX12_asks 3 = .ok (.ldc2_w 109, 3) := by decide +kernel
theorem dX12_asks_6 : decode cX12_asks 6 = .ok (.invokestatic 15, 3) := by decide +kernel
theorem dX12_asks_9 : decode cX12_asks 9 = .ok (.ifCond .eq 20, 3) := by decide +kernel
theorem dX12_asks_12 : decode cX12_asks 12 = .ok (.iload_n 2, 1) := by decide +kernel
theorem dX12_asks_13 : decode cX12_asks 13 = .ok (.i2l, 1) := by decide +kernel
theorem dX12_asks_14 : decode cX12_asks 14 = .ok (.lconst 0, 1) := by decide +kernel
theorem dX12_asks_15 : decode cX12_asks 15 = .ok (.ldc2_w 111, 3) := by decide +kernel
theorem dX12_asks_18 : decode cX12_asks 18 = .ok (.invokestatic 15, 3) := by decide +kernel
theorem dX12_asks_21 : decode cX12_asks 21 = .ok (.ifCond .eq 8, 3) := by decide +kernel
theorem dX12_asks_24 : decode cX12_asks 24 = .ok (.iload 4, 2) := by decide +kernel
theorem dX12_asks_26 : decode cX12_asks 26 = .ok (.ifCond .ge 6, 3) := by decide +kernel
theorem dX12_asks_29 : decode cX12_asks 29 = .ok (.bipush (-2), 2) := by decide +kernel
theorem dX12_asks_31 : decode cX12_asks 31 = .ok (.ireturn, 1) := by decide +kernel
theorem dX12_asks_32 : decode cX12_asks 32 = .ok (.aload_n 0, 1) := by decide +kernel
theorem dX12_asks_33 : decode cX12_asks 33 = .ok (.getfield 113, 3) := by decide +kernel
theorem dX12_asks_36 : decode cX12_asks 36 = .ok (.iload_n 1, 1) := by decide +kernel
theorem dX12_asks_37 : decode cX12_asks 37 = .ok (.iaload, 1) := by decide +kernel
theorem dX12_asks_38 : decode cX12_asks 38 = .ok (.ifCond .ge 6, 3) := by decide +kernel
theorem dX12_asks_41 : decode cX12_asks 41 = .ok (.bipush (-11), 2) := by decide +kernel
theorem dX12_asks_43 : decode cX12_asks 43 = .ok (.ireturn, 1) := by decide +kernel
theorem dX12_asks_44 : decode cX12_asks 44 = .ok (.aload_n 0, 1) := by decide +kernel
theorem dX12_asks_45 : decode cX12_asks 45 = .ok (.getfield 113, 3) := by decide +kernel
theorem dX12_asks_48 : decode cX12_asks 48 = .ok (.iload_n 1, 1) := by decide +kernel
theorem dX12_asks_49 : decode cX12_asks 49 = .ok (.iaload, 1) := by decide +kernel
theorem dX12_asks_50 : decode cX12_asks 50 = .ok (.iload_n 2, 1) := by decide +kernel
theorem dX12_asks_51 : decode cX12_asks 51 = .ok (.if_icmp .eq 6, 3) := by decide +kernel
theorem dX12_asks_54 : decode cX12_asks 54 = .ok (.bipush (-13), 2) := by decide +kernel
theorem dX12_asks_56 : decode cX12_asks 56 = .ok (.ireturn, 1) := by decide +kernel
theorem dX12_asks_57 : decode cX12_asks 57 = .ok (.iconst 0, 1) := by decide +kernel
theorem dX12_asks_58 : decode cX12_asks 58 = .ok (.istore 5, 2) := by decide +kernel
theorem dX12_asks_60 : decode cX12_asks 60 = .ok (.iconst 0, 1) := by decide +kernel
