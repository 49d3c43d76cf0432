theorem dX11_init_0 : decode cX11_init 0 = .ok (.aload_n 0, 1) := by decide +kernel
theorem dX11_init_1 : decode cX11_init 1 = .ok (.invokespecial 1, 3) := by decide +kernel
theorem dX11_init_4 : decode cX11_init 4 = .ok (.aload_n 0, 1) := by decide +kernel
theorem dX11_init_5 : decode cX11_init 5 = .ok (.iconst 5, 1) := by decide +kernel
theorem dX11_init_6 : decode cX11_init 6 = .ok (.anewarray 9, 3) := by decide +kernel
theorem dX11_init_9 : decode cX11_init 9 = .ok (.putfield 11, 3) := by decide +kernel
theorem dX11_init_12 : decode cX11_init 12 = .ok (.iconst 0, 1) := by decide +kernel
theorem dX11_init_13 : decode cX11_init 13 = .ok (.istore_n 1, 1) := by decide +kernel
theorem dX11_init_14 : decode cX11_init 14 = .ok (.iload_n 1, 1) := by decide +kernel
theorem dX11_init_15 : decode cX11_init 15 = .ok (.iconst 5, 1) := by decide +kernel
theorem dX11_init_16 : decode cX11_init 16 = .ok (.if_icmp .ge 22, 3) := by decide +kernel
theorem dX11_init_19 : decode cX11_init 19 = .ok (.aload_n 0, 1) := by decide +kernel
theorem dX11_init_20 : decode cX11_init 20 = .ok (.getfield 11, 3) := by decide +kernel
theorem dX11_init_23 : decode cX11_init 23 = .ok (.iload_n 1, 1) := by decide +kernel
theorem dX11_init_24 : decode cX11_init 24 = .ok (.new 9, 3) := by decide +kernel
theorem dX11_init_27 : decode cX11_init 27 = .ok (.dup, 1) := by decide +kernel
theorem dX11_init_28 : decode cX11_init 28 = .ok (.invokespecial 15, 3) := by decide +kernel
theorem dX11_init_31 : decode cX11_init 31 = .ok (.aastore, 1) := by decide +kernel
theorem dX11_init_32 : decode cX11_init 32 = .ok (.iinc 1 1, 3) := by decide +kernel
theorem dX11_init_35 : decode cX11_init 35 = .ok (.goto (-21), 3) := by decide +kernel
theorem dX11_init_38 : decode cX11_init 38 = .ok (.aload_n 0, 1) := by decide +kernel
theorem dX11_init_39 : decode cX11_init 39 = .ok (.new 16, 3) := by decide +kernel
theorem dX11_init_42 : decode cX11_init 42 = .ok (.dup, 1) := by decide +kernel
theorem dX11_init_43 : decode cX11_init 43 = .ok (.bipush 10, 2) := by decide +kernel
theorem dX11_init_45 : decode cX11_init 45 = .ok (.invokespecial 18, 3) := by decide +kernel
theorem dX11_init_48 : decode cX11_init 48 = .ok (.putfield 21, 3) := by decide +kernel
theorem dX11_init_51 : decode cX11_init 51 = .ok (.aload_n 0, 1) := by decide +kernel
theorem dX11_init_52 : decode cX11_init 52 = .ok (.new 16, 3) := by decide +kernel
theorem dX11_init_55 : decode cX11_init 55 = .ok (.dup, 1) := by decide +kernel
theorem dX11_init_56 : decode cX11_init 56 = .ok (.bipush 12, 2) := by decide +kernel
theorem dX11_init_58 : decode cX11_init 58 = .ok (.invokespecial 18, 3) := by decide +kernel
theorem dX11_init_61 : decode cX11_init 61 = .ok (.putfield 25, 3) := by decide +kernel
theorem dX11_init_64 : decode cX11_init 64 = .ok (.aload_n 0, 1) := by decide +kernel
theorem dX11_init_65 : decode cX11_init 65 = .ok (.new 16, 3) := by decide +kernel
theorem dX11_init_68 : decode cX11_init 68 = .ok (.dup, 1) := by decide +kernel
theorem dX11_init_69 : decode cX11_init 69 = .ok (.bipush 40, 2) := by decide +kernel
theorem dX11_init_71 : decode cX11_init 71 = .ok (.invokespecial 18, 3) := by decide +kernel
theorem dX11_init_74 : decode cX11_init 74 = .ok (.putfield 28, 3) := by decide +kernel
theorem dX11_init_77 : decode cX11_init 77 = .ok (.aload_n 0, 1) := by decide +kernel
theorem dX11_init_78 : decode cX11_init 78 = .ok (.new 31, 3) := by decide +kernel
theorem dX11_init_81 : decode cX11_init 81 = .ok (.dup, 1) := by decide +kernel
theorem dX11_init_82 : decode cX11_init 82 = .ok (.invokespecial 33, 3) := by decide +kernel
theorem dX11_init_85 : decode cX11_init 85 = .ok (.putfield 34, 3) := by decide +kernel
theorem dX11_init_88 : decode cX11_init 88 = .ok (.aload_n 0, 1) := by decide +kernel
theorem dX11_init_89 : decode cX11_init 89 = .ok (.new 38, 3) := by decide +kernel
theorem dX11_init_92 : decode cX11_init 92 = .ok (.dup, 1) := by decide +kernel
theorem dX11_init_93 : decode cX11_init 93 = .ok (.invokespecial 40, 3) := by decide +kernel
theorem dX11_init_96 : decode cX11_init 96 = .ok (.putfield 41, 3) := by decide +kernel
theorem dX11_init_99 : decode cX11_init 99 = .ok (.aload_n 0, 1) := by decide +kernel
theorem dX11_init_100 : decode cX11_init 100 = .ok (.new 45, 3) := by decide +kernel
theorem dX11_init_103 : decode cX11_init 103 = .ok (.dup, 1) := by decide +kernel
theorem dX11_init_104 : decode cX11_init 104 = .ok (.aload_n 0, 1) := by decide +kernel
theorem dX11_init_105 : decode cX11_init 105 = .ok (.getfield 34, 3) := by decide +kernel
theorem dX11_init_108 : decode cX11_init 108 = .ok (.invokespecial 47, 3) := by decide +kernel
theorem dX11_init_111 : decode cX11_init 111 = .ok (.putfield 50, 3) := by decide +kernel
theorem dX11_init_114 : decode cX11_init 114 = .ok (.aload_n 0, 1) := by decide +kernel
theorem dX11_init_115 : decode cX11_init 115 = .ok (.bipush 20, 2) := by decide +kernel
theorem dX11_init_117 : decode cX11_init 117 = .ok (.anewarray 54, 3) := by decide +kernel
theorem dX11_init_120 : decode cX11_init 120 = .ok (.putfield 56, 3) := by decide +kernel
theorem dX11_init_123 : decode cX11_init 123 = .ok (.iconst 0, 1) := by decide +kernel
theorem dX11_init_124 : decode cX11_init 124 = .ok (.istore_n 1, 1) := by decide +kernel
theorem dX11_init_125 : decode cX11_init 125 = .ok (.iload_n 1, 1) := by decide +kernel
theorem dX11_init_126 : decode cX11_init 126 = .ok (.bipush 20, 2) := by decide +kernel
theorem dX11_init_128 : decode cX11_init 128 = .ok (.if_icmp .ge 22, 3) := by decide +kernel
theorem dX11_init_131 : decode cX11_init 131 = .ok (.aload_n 0, 1) := by decide +kernel
theorem dX11_init_132 : decode cX11_init 132 = .ok (.getfield 56, 3) := by decide +kernel
theorem dX11_init_135 : decode cX11_init 135 = .ok (.iload_n 1, 1) := by decide +kernel
theorem dX11_init_136 : decode cX11_init 136 = .ok (.new 54, 3) := by decide +kernel
theorem dX11_init_139 : decode cX11_init 139 = .ok (.dup, 1) := by decide +kernel
theorem dX11_init_140 : decode cX11_init 140 = .ok (.invokespecial 60, 3) := by decide +kernel
theorem dX11_init_143 : decode cX11_init 143 = .ok (.aastore, 1) := by decide +kernel
theorem dX11_init_144 : decode cX11_init 144 = .ok (.iinc 1 1, 3) := by decide +kernel
theorem dX11_init_147 : decode cX11_init 147 = .ok (.goto (-22), 3) := by decide +kernel
theorem dX11_init_150 : decode cX11_init 150 = .ok (.aload_n 0, 1) := by decide +kernel
theorem dX11_init_151 : decode cX11_init 151 = .ok (.iconst 0, 1) := by decide +kernel
theorem dX11_init_152 : decode cX11_init 152 = .ok (.putfield 61, 3) := by decide +kernel
theorem dX11_init_155 : decode cX11_init 155 = .ok (.aload_n 0, 1) := by decide +kernel
theorem dX11_init_156 : decode cX11_init 156 = .ok (.bipush 6, 2) := by decide +kernel
theorem dX11_init_158 : decode cX11_init 158 = .ok (.anewarray 65, 3) := by decide +kernel
theorem dX11_init_161 : decode cX11_init 161 = .ok (.putfield 67, 3) := by decide +kernel
theorem dX11_init_164 : decode cX11_init 164 = .ok (.iconst 0, 1) := by decide +kernel
theorem dX11_init_165 : decode cX11_init 165 = .ok (.istore_n 1, 1) := by decide +kernel
theorem dX11_init_166 : decode cX11_init 166 = .ok (.iload_n 1, 1) := by decide +kernel
theorem dX11_init_167 : decode cX11_init 167 = .ok (.bipush 6, 2) := by decide +kernel
theorem dX11_init_169 : decode cX11_init 169 = .ok (.if_icmp .ge 22, 3) := by decide +kernel
theorem dX11_init_172 : decode cX11_init 172 = .ok (.aload_n 0, 1) := by decide +kernel
theorem dX11_init_173 : decode cX11_init 173 = .ok (.getfield 67, 3) := by decide +kernel
theorem dX11_init_176 : decode cX11_init 176 = .ok (.iload_n 1, 1) := by decide +kernel
theorem dX11_init_177 : decode cX11_init 177 = .ok (.new 65, 3) := by decide +kernel
theorem dX11_init_180 : decode cX11_init 180 = .ok (.dup, 1) := by decide +kernel
theorem dX11_init_181 : decode cX11_init 181 = .ok (.invokespecial 71, 3) := by decide +kernel
theorem dX11_init_184 : decode cX11_init 184 = .ok (.aastore, 1) := by decide +kernel
theorem dX11_init_185 : decode cX11_init 185 = .ok (.iinc 1 1, 3) := by decide +kernel
theorem dX11_init_188 : decode cX11_init 188 = .ok (.goto (-22), 3) := by decide +kernel
theorem dX11_init_191 : decode cX11_init 191 = .ok (.aload_n 0, 1) := by decide +kernel
theorem dX11_init_192 : decode cX11_init 192 = .ok (.new 72, 3) := by decide +kernel
theorem dX11_init_195 : decode cX11_init 195 = .ok (.dup, 1) := by decide +kernel
theorem dX11_init_196 : decode cX11_init 196 = .ok (.invokespecial 74, 3) := by decide +kernel
theorem dX11_init_199 : decode cX11_init 199 = .ok (.putfield 75, 3) := by decide +kernel
theorem dX11_init_202 : decode cX11_init 202 = .ok (.aload_n 0, 1) := by decide +kernel
theorem dX11_init_203 : decode cX11_init 203 = .ok (.new 79, 3) := by decide +kernel
theorem dX11_init_206 : decode cX11_init 206 = .ok (.dup, 1) := by decide +kernel
theorem dX11_init_207 : decode cX11_init 207 = .ok (.aload_n 0, 1) := by decide +kernel
theorem dX11_init_208 : decode cX11_init 208 = .ok (.getfield 11, 3) := by decide +kernel
theorem dX11_init_211 : decode cX11_init 211 = .ok (.invokespecial 81, 3) := by decide +kernel
theorem dX11_init_214 : decode cX11_init 214 = .ok (.putfield 84, 3) := by decide +kernel
theorem dX11_init_217 : decode cX11_init 217 = .ok (.return_, 1) := by decide +kernel
theorem dX11_letter_0 : decode cX11_letter 0 = .ok (.aload_n 0, 1) := by decide +kernel
theorem dX11_letter_1 : decode cX11_letter 1 = .ok (.iload_n 1, 1) := by decide +kernel
theorem dX11_letter_2 : decode cX11_letter 2 = .ok (.invokevirtual 88, 3) := by decide +kernel
theorem dX11_letter_5 : decode cX11_letter 5 = .ok (.astore 4, 2) := by decide +kernel
theorem dX11_letter_7 : decode cX11_letter 7 = .ok (.aload 4, 2) := by decide +kernel
theorem dX11_letter_9 : decode cX11_letter 9 = .ok (.ifnull 13, 3) := by decide +kernel
theorem dX11_letter_12 : decode cX11_letter 12 = .ok (.iload_n 2, 1) := by decide +kernel
theorem dX11_letter_13 : decode cX11_letter 13 = .ok (.iconst 0, 1) := by decide +kernel
theorem dX11_letter_14 : decode cX11_letter 14 = .ok (.bipush 25, 2) := by decide +kernel
theorem dX11_letter_16 : decode cX11_letter 16 = .ok (.invokestatic 92, 3) := by decide +kernel
theorem dX11_letter_19 : decode cX11_letter 19 = .ok (.ifCond .ne 5, 3) := by decide +kernel
theorem dX11_letter_22 : decode cX11_letter 22 = .ok (.iconst (-1), 1) := by decide +kernel
theorem dX11_letter_23 : decode cX11_letter 23 = .ok (.ireturn, 1) := by decide +kernel
theorem dX11_letter_24 : decode cX11_letter 24 = .ok (.iload_n 3, 1) := by decide +kernel
theorem dX11_letter_25 : decode cX11_letter 25 = .ok (.iconst 0, 1) := by decide +kernel
theorem dX11_letter_26 : decode cX11_letter 26 = .ok (.bipush 63, 2) := by decide +kernel
theorem dX11_letter_28 : decode cX11_letter 28 = .ok (.invokestatic 92, 3) := by decide +kernel
theorem dX11_letter_31 : decode cX11_letter 31 = .ok (.ifCond .ne 6, 3) := by decide +kernel
theorem dX11_letter_34 : decode cX11_letter 34 = .ok (.bipush (-2), 2) := by decide +kernel
theorem dX11_letter_36 : decode cX11_letter 36 = .ok (.ireturn, 1) := by decide +kernel
theorem dX11_letter_37 : decode cX11_letter 37 = .ok (.aload 4, 2) := by decide +kernel
theorem dX11_letter_39 : decode cX11_letter 39 = .ok (.getfield 96, 3) := by decide +kernel
theorem dX11_letter_42 : decode cX11_letter 42 = .ok (.iload_n 2, 1) := by decide +kernel
theorem dX11_letter_43 : decode cX11_letter 43 = .ok (.iaload, 1) := by decide +kernel
theorem dX11_letter_44 : decode cX11_letter 44 = .ok (.istore 5, 2) := by decide +kernel
theorem dX11_letter_46 : decode cX11_letter 46 = .ok (.aload 4, 2) := by decide +kernel
theorem dX11_letter_48 : decode cX11_letter 48 = .ok (.getfield 96, 3) := by decide +kernel
theorem dX11_letter_51 : decode cX11_letter 51 = .ok (.iload_n 2, 1) := by decide +kernel
theorem dX11_letter_52 : decode cX11_letter 52 = .ok (.iload_n 3, 1) := by decide +kernel
theorem dX11_letter_53 : decode cX11_letter 53 = .ok (.iastore, 1) := by decide +kernel
theorem dX11_letter_54 : decode cX11_letter 54 = .ok (.iload 5, 2) := by decide +kernel
theorem dX11_letter_56 : decode cX11_letter 56 = .ok (.ireturn, 1) := by decide +kernel
theorem dX11_say_0 : decode cX11_say 0 = .ok (.iload_n 1, 1) := by decide +kernel
theorem dX11_say_1 : decode cX11_say 1 = .ok (.iconst 0, 1) := by decide +kernel
theorem dX11_say_2 : decode cX11_say 2 = .ok (.bipush 25, 2) := by decide +kernel
theorem dX11_say_4 : decode cX11_say 4 = .ok (.invokestatic 92, 3) := by decide +kernel
theorem dX11_say_7 : decode cX11_say 7 = .ok (.ifCond .ne 5, 3) := by decide +kernel
theorem dX11_say_10 : decode cX11_say 10 = .ok (.iconst (-1), 1) := by decide +kernel
theorem dX11_say_11 : decode cX11_say 11 = .ok (.ireturn, 1) := by decide +kernel
theorem dX11_say_12 : decode cX11_say 12 = .ok (.aload_n 0, 1) := by decide +kernel
theorem dX11_say_13 : decode cX11_say 13 = .ok (.getfield 21, 3) := by decide +kernel
theorem dX11_say_16 : decode cX11_say 16 = .ok (.invokevirtual 100, 3) := by decide +kernel
theorem dX11_say_19 : decode cX11_say 19 = .ok (.ifCond .eq 8, 3) := by decide +kernel
theorem dX11_say_22 : decode cX11_say 22 = .ok (.bipush (-4), 2) := by decide +kernel
theorem dX11_say_24 : decode cX11_say 24 = .ok (.goto 11, 3) := by decide +kernel
theorem dX11_say_27 : decode cX11_say 27 = .ok (.aload_n 0, 1) := by decide +kernel
theorem dX11_say_28 : decode cX11_say 28 = .ok (.getfield 21, 3) := by decide +kernel
theorem dX11_say_31 : decode cX11_say 31 = .ok (.iload_n 1, 1) := by decide +kernel
theorem dX11_say_32 : decode cX11_say 32 = .ok (.invokevirtual 104, 3) := by decide +kernel
theorem dX11_say_35 : decode cX11_say 35 = .ok (.ireturn, 1) := by decide +kernel
theorem dX11_dot_0 : decode cX11_dot 0 = .ok (.iload_n 1, 1) := by decide +kernel
theorem dX11_dot_1 : decode cX11_dot 1 = .ok (.iconst 1, 1) := by decide +kernel
theorem dX11_dot_2 : decode cX11_dot 2 = .ok (.bipush 63, 2) := by decide +kernel
theorem dX11_dot_4 : decode cX11_dot 4 = .ok (.invokestatic 92, 3) := by decide +kernel
theorem dX11_dot_7 : decode cX11_dot 7 = .ok (.ifCond .ne 6, 3) := by decide +kernel
theorem dX11_dot_10 : decode cX11_dot 10 = .ok (.bipush (-2), 2) := by decide +kernel
theorem dX11_dot_12 : decode cX11_dot 12 = .ok (.ireturn, 1) := by decide +kernel
theorem dX11_dot_13 : decode cX11_dot 13 = .ok (.aload_n 0, 1) := by decide +kernel
theorem dX11_dot_14 : decode cX11_dot 14 = .ok (.getfield 25, 3) := by decide +kernel
theorem dX11_dot_17 : decode cX11_dot 17 = .ok (.invokevirtual 100, 3) := by decide +kernel
theorem dX11_dot_20 : decode cX11_dot 20 = .ok (.ifCond .eq 8, 3) := by decide +kernel
theorem dX11_dot_23 : decode cX11_dot 23 = .ok (.bipush (-4), 2) := by decide +kernel
theorem dX11_dot_25 : decode cX11_dot 25 = .ok (.goto 11, 3) := by decide +kernel
theorem dX11_dot_28 : decode cX11_dot 28 = .ok (.aload_n 0, 1) := by decide +kernel
theorem dX11_dot_29 : decode cX11_dot 29 = .ok (.getfield 25, 3) := by decide +kernel
theorem dX11_dot_32 : decode cX11_dot 32 = .ok (.iload_n 1, 1) := by decide +kernel
theorem dX11_dot_33 : decode cX11_dot 33 = .ok (.invokevirtual 104, 3) := by decide +kernel
theorem dX11_dot_36 : decode cX11_dot 36 = .ok (.ireturn, 1) := by decide +kernel
theorem dX11_wipe_0 : decode cX11_wipe 0 = .ok (.iload_n 1, 1) := by decide +kernel
theorem dX11_wipe_1 : decode cX11_wipe 1 = .ok (.tableswitch 51 0 2 #[27, 35, 43], 27) := by decide +kernel
theorem dX11_wipe_28 : decode cX11_wipe 28 = .ok (.aload_n 0, 1) := by decide +kernel
theorem dX11_wipe_29 : decode cX11_wipe 29 = .ok (.getfield 21, 3) := by decide +kernel
theorem dX11_wipe_32 : decode cX11_wipe 32 = .ok (.invokevirtual 108, 3) := by decide +kernel
theorem dX11_wipe_35 : decode cX11_wipe 35 = .ok (.ireturn, 1) := by decide +kernel
theorem dX11_wipe_36 : decode cX11_wipe 36 = .ok (.aload_n 0, 1) := by decide +kernel
theorem dX11_wipe_37 : decode cX11_wipe 37 = .ok (.getfield 25, 3) := by decide +kernel
theorem dX11_wipe_40 : decode cX11_wipe 40 = .ok (.invokevirtual 108, 3) := by decide +kernel
theorem dX11_wipe_43 : decode cX11_wipe 43 = .ok (.ireturn, 1) := by decide +kernel
theorem dX11_wipe_44 : decode cX11_wipe 44 = .ok (.aload_n 0, 1) := by decide +kernel
theorem dX11_wipe_45 : decode cX11_wipe 45 = .ok (.getfield 28, 3) := by decide +kernel
theorem dX11_wipe_48 : decode cX11_wipe 48 = .ok (.invokevirtual 108, 3) := by decide +kernel
theorem dX11_wipe_51 : decode cX11_wipe 51 = .ok (.ireturn, 1) := by decide +kernel
theorem dX11_wipe_52 : decode cX11_wipe 52 = .ok (.bipush (-2), 2) := by decide +kernel
theorem dX11_wipe_54 : decode cX11_wipe 54 = .ok (.ireturn, 1) := by decide +kernel
theorem dX11_abbreviate_0 : decode cX11_abbreviate 0 = .ok (.aload_n 0, 1) := by decide +kernel
theorem dX11_abbreviate_1 : decode cX11_abbreviate 1 = .ok (.iload_n 1, 1) := by decide +kernel
theorem dX11_abbreviate_2 : decode cX11_abbreviate 2 = .ok (.invokevirtual 88, 3) := by decide +kernel
theorem dX11_abbreviate_5 : decode cX11_abbreviate 5 = .ok (.astore_n 2, 1) := by decide +kernel
theorem dX11_abbreviate_6 : decode cX11_abbreviate 6 = .ok (.aload_n 2, 1) := by decide +kernel
theorem dX11_abbreviate_7 : decode cX11_abbreviate 7 = .ok (.ifnonnull 5, 3) := by decide +kernel
theorem dX11_abbreviate_10 : decode cX11_abbreviate 10 = .ok (.iconst (-1), 1) := by decide +kernel
theorem dX11_abbreviate_11 : decode cX11_abbreviate 11 = .ok (.ireturn, 1) := by decide +kernel
theorem dX11_abbreviate_12 : decode cX11_abbreviate 12 = .ok (.aload_n 2, 1) := by decide +kernel
theorem dX11_abbreviate_13 : decode cX11_abbreviate 13 = .ok (.getfield 112, 3) := by decide +kernel
theorem dX11_abbreviate_16 : decode cX11_abbreviate 16 = .ok (.invokevirtual 116, 3) := by decide +kernel
theorem dX11_abbreviate_19 : decode cX11_abbreviate 19 = .ok (.ifCond .eq 6, 3) := by decide +kernel
theorem dX11_abbreviate_22 : decode cX11_abbreviate 22 = .ok (.bipush (-4), 2) := by decide +kernel
theorem dX11_abbreviate_24 : decode cX11_abbreviate 24 = .ok (.ireturn, 1) := by decide +kernel
theorem dX11_abbreviate_25 : decode cX11_abbreviate 25 = .ok (.aload_n 0, 1) := by decide +kernel
theorem dX11_abbreviate_26 : decode cX11_abbreviate 26 = .ok (.getfield 21, 3) := by decide +kernel
theorem dX11_abbreviate_29 : decode cX11_abbreviate 29 = .ok (.getfield 119, 3) := by decide +kernel
theorem dX11_abbreviate_32 : decode cX11_abbreviate 32 = .ok (.iconst 2, 1) := by decide +kernel
theorem dX11_abbreviate_33 : decode cX11_abbreviate 33 = .ok (.iconst 4, 1) := by decide +kernel
theorem dX11_abbreviate_34 : decode cX11_abbreviate 34 = .ok (.invokestatic 92, 3) := by decide +kernel
theorem dX11_abbreviate_37 : decode cX11_abbreviate 37 = .ok (.ifCond .eq 18, 3) := by decide +kernel
theorem dX11_abbreviate_40 : decode cX11_abbreviate 40 = .ok (.aload_n 0, 1) := by decide +kernel
theorem dX11_abbreviate_41 : decode cX11_abbreviate 41 = .ok (.getfield 25, 3) := by decide +kernel
theorem dX11_abbreviate_44 : decode cX11_abbreviate 44 = .ok (.getfield 119, 3) := by decide +kernel
theorem dX11_abbreviate_47 : decode cX11_abbreviate 47 = .ok (.iconst 1, 1) := by decide +kernel
theorem dX11_abbreviate_48 : decode cX11_abbreviate 48 = .ok (.iconst 2, 1) := by decide +kernel
theorem dX11_abbreviate_49 : decode cX11_abbreviate 49 = .ok (.invokestatic 92, 3) := by decide +kernel
theorem dX11_abbreviate_52 : decode cX11_abbreviate 52 = .ok (.ifCond .ne 6, 3) := by decide +kernel
theorem dX11_abbreviate_55 : decode cX11_abbreviate 55 = .ok (.bipush (-5), 2) := by decide +kernel
theorem dX11_abbreviate_57 : decode cX11_abbreviate 57 = .ok (.ireturn, 1) := by decide +kernel
theorem dX11_abbreviate_58 : decode cX11_abbreviate 58 = .ok (.aload_n 2, 1) := by decide +kernel
theorem dX11_abbreviate_59 : decode cX11_abbreviate 59 = .ok (.aload_n 0, 1) := by decide +kernel
theorem dX11_abbreviate_60 : decode cX11_abbreviate 60 = .ok (.getfield 21, 3) := by decide +kernel
theorem dX11_abbreviate_63 : decode cX11_abbreviate 63 = .ok (.aload_n 0, 1) := by decide +kernel
theorem dX11_abbreviate_64 : decode cX11_abbreviate 64 = .ok (.getfield 25, 3) := by decide +kernel
theorem dX11_abbreviate_67 : decode cX11_abbreviate 67 = .ok (.invokevirtual 122, 3) := by decide +kernel
theorem dX11_abbreviate_70 : decode cX11_abbreviate 70 = .ok (.ireturn, 1) := by decide +kernel
theorem dX11_write_0 : decode cX11_write 0 = .ok (.aload_n 0, 1) := by decide +kernel
theorem dX11_write_1 : decode cX11_write 1 = .ok (.iload_n 1, 1) := by decide +kernel
theorem dX11_write_2 : decode cX11_write 2 = .ok (.invokevirtual 88, 3) := by decide +kernel
theorem dX11_write_5 : decode cX11_write 5 = .ok (.astore_n 3, 1) := by decide +kernel
theorem dX11_write_6 : decode cX11_write 6 = .ok (.aload_n 3, 1) := by decide +kernel
theorem dX11_write_7 : decode cX11_write 7 = .ok (.ifnonnull 5, 3) := by decide +kernel
theorem dX11_write_10 : decode cX11_write 10 = .ok (.iconst (-1), 1) := by decide +kernel
theorem dX11_write_11 : decode cX11_write 11 = .ok (.ireturn, 1) := by decide +kernel
theorem dX11_write_12 : decode cX11_write 12 = .ok (.aload_n 0, 1) := by decide +kernel
theorem dX11_write_13 : decode cX11_write 13 = .ok (.getfield 34, 3) := by decide +kernel
theorem dX11_write_16 : decode cX11_write 16 = .ok (.aload_n 3, 1) := by decide +kernel
theorem dX11_write_17 : decode cX11_write 17 = .ok (.aload_n 0, 1) := by decide +kernel
theorem dX11_write_18 : decode cX11_write 18 = .ok (.getfield 21, 3) := by decide +kernel
theorem dX11_write_21 : decode cX11_write 21 = .ok (.invokevirtual 126, 3) := by decide +kernel
theorem dX11_write_24 : decode cX11_write 24 = .ok (.ifCond .ne 6, 3) := by decide +kernel
theorem dX11_write_27 : decode cX11_write 27 = .ok (.bipush (-5), 2) := by decide +kernel
theorem dX11_write_29 : decode cX11_write 29 = .ok (.ireturn, 1) := by decide +kernel
theorem dX11_write_30 : decode cX11_write 30 = .ok (.iload_n 2, 1) := by decide +kernel
theorem dX11_write_31 : decode cX11_write 31 = .ok (.iconst (-1), 1) := by decide +kernel
theorem dX11_write_32 : decode cX11_write 32 = .ok (.if_icmp .ne 14, 3) := by decide +kernel
theorem dX11_write_35 : decode cX11_write 35 = .ok (.aload_n 0, 1) := by decide +kernel
theorem dX11_write_36 : decode cX11_write 36 = .ok (.getfield 34, 3) := by decide +kernel
theorem dX11_write_39 : decode cX11_write 39 = .ok (.getfield 130, 3) := by decide +kernel
theorem dX11_write_42 : decode cX11_write 42 = .ok (.getfield 119, 3) := by decide +kernel
theorem dX11_write_45 : decode cX11_write 45 = .ok (.ireturn, 1) := by decide +kernel
theorem dX11_write_46 : decode cX11_write 46 = .ok (.iload_n 2, 1) := by decide +kernel
theorem dX11_write_47 : decode cX11_write 47 = .ok (.bipush (-2), 2) := by decide +kernel
theorem dX11_write_49 : decode cX11_write 49 = .ok (.if_icmp .ne 13, 3) := by decide +kernel
theorem dX11_write_52 : decode cX11_write 52 = .ok (.aload_n 0, 1) := by decide +kernel
theorem dX11_write_53 : decode cX11_write 53 = .ok (.getfield 34, 3) := by decide +kernel
theorem dX11_write_56 : decode cX11_write 56 = .ok (.invokevirtual 133, 3) := by decide +kernel
theorem dX11_write_59 : decode cX11_write 59 = .ok (.goto 14, 3) := by decide +kernel
theorem dX11_write_62 : decode cX11_write 62 = .ok (.aload_n 0, 1) := by decide +kernel
theorem dX11_write_63 : decode cX11_write 63 = .ok (.getfield 34, 3) := by decide +kernel
theorem dX11_write_66 : decode cX11_write 66 = .ok (.getfield 130, 3) := by decide +kernel
theorem dX11_write_69 : decode cX11_write 69 = .ok (.iload_n 2, 1) := by decide +kernel
theorem dX11_write_70 : decode cX11_write 70 = .ok (.invokevirtual 136, 3) := by decide +kernel
theorem dX11_write_73 : decode cX11_write 73 = .ok (.ireturn, 1) := by decide +kernel
theorem dX11_read_0 : decode cX11_read 0 = .ok (.aload_n 0, 1) := by decide +kernel
theorem dX11_read_1 : decode cX11_read 1 = .ok (.iload_n 1, 1) := by decide +kernel
theorem dX11_read_2 : decode cX11_read 2 = .ok (.invokevirtual 88, 3) := by decide +kernel
theorem dX11_read_5 : decode cX11_read 5 = .ok (.astore_n 3, 1) := by decide +kernel
theorem dX11_read_6 : decode cX11_read 6 = .ok (.aload_n 3, 1) := by decide +kernel
theorem dX11_read_7 : decode cX11_read 7 = .ok (.ifnonnull 5, 3) := by decide +kernel
theorem dX11_read_10 : decode cX11_read 10 = .ok (.iconst (-1), 1) := by decide +kernel
theorem dX11_read_11 : decode cX11_read 11 = .ok (.ireturn, 1) := by decide +kernel
theorem dX11_read_12 : decode cX11_read 12 = .ok (.aload_n 0, 1) := by decide +kernel
theorem dX11_read_13 : decode cX11_read 13 = .ok (.getfield 41, 3) := by decide +kernel
theorem dX11_read_16 : decode cX11_read 16 = .ok (.aload_n 3, 1) := by decide +kernel
theorem dX11_read_17 : decode cX11_read 17 = .ok (.aload_n 0, 1) := by decide +kernel
theorem dX11_read_18 : decode cX11_read 18 = .ok (.getfield 25, 3) := by decide +kernel
theorem dX11_read_21 : decode cX11_read 21 = .ok (.invokevirtual 139, 3) := by decide +kernel
theorem dX11_read_24 : decode cX11_read 24 = .ok (.istore 4, 2) := by decide +kernel
theorem dX11_read_26 : decode cX11_read 26 = .ok (.iload_n 2, 1) := by decide +kernel
theorem dX11_read_27 : decode cX11_read 27 = .ok (.iconst (-1), 1) := by decide +kernel
theorem dX11_read_28 : decode cX11_read 28 = .ok (.if_icmp .ne 6, 3) := by decide +kernel
theorem dX11_read_31 : decode cX11_read 31 = .ok (.iload 4, 2) := by decide +kernel
theorem dX11_read_33 : decode cX11_read 33 = .ok (.ireturn, 1) := by decide +kernel
theorem dX11_read_34 : decode cX11_read 34 = .ok (.aload_n 0, 1) := by decide +kernel
theorem dX11_read_35 : decode cX11_read 35 = .ok (.getfield 41, 3) := by decide +kernel
theorem dX11_read_38 : decode cX11_read 38 = .ok (.aload_n 3, 1) := by decide +kernel
theorem dX11_read_39 : decode cX11_read 39 = .ok (.aload_n 0, 1) := by decide +kernel
theorem dX11_read_40 : decode cX11_read 40 = .ok (.getfield 25, 3) := by decide +kernel
theorem dX11_read_43 : decode cX11_read 43 = .ok (.invokevirtual 143, 3) := by decide +kernel
theorem dX11_read_46 : decode cX11_read 46 = .ok (.iload_n 2, 1) := by decide +kernel
theorem dX11_read_47 : decode cX11_read 47 = .ok (.bipush (-2), 2) := by decide +kernel
theorem dX11_read_49 : decode cX11_read 49 = .ok (.if_icmp .ne 16, 3) := by decide +kernel
theorem dX11_read_52 : decode cX11_read 52 = .ok (.aload_n 0, 1) := by decide +kernel
theorem dX11_read_53 : decode cX11_read 53 = .ok (.getfield 41, 3) := by decide +kernel
theorem dX11_read_56 : decode cX11_read 56 = .ok (.getfield 147, 3) := by decide +kernel
theorem dX11_read_59 : decode cX11_read 59 = .ok (.getfield 119, 3) := by decide +kernel
theorem dX11_read_62 : decode cX11_read 62 = .ok (.goto 14, 3) := by decide +kernel
theorem dX11_read_65 : decode cX11_read 65 = .ok (.aload_n 0, 1) := by decide +kernel
theorem dX11_read_66 : decode cX11_read 66 = .ok (.getfield 41, 3) := by decide +kernel
theorem dX11_read_69 : decode cX11_read 69 = .ok (.getfield 147, 3) := by decide +kernel
theorem dX11_read_72 : decode cX11_read 72 = .ok (.iload_n 2, 1) := by decide +kernel
theorem dX11_read_73 : decode cX11_read 73 = .ok (.invokevirtual 136, 3) := by decide +kernel
theorem dX11_read_76 : decode cX11_read 76 = .ok (.ireturn, 1) := by decide +kernel
theorem dX11_ways_0 : decode cX11_ways 0 = .ok (.aload_n 0, 1) := by decide +kernel
theorem dX11_ways_1 : decode cX11_ways 1 = .ok (.iload_n 1, 1) := by decide +kernel
theorem dX11_ways_2 : decode cX11_ways 2 = .ok (.invokevirtual 88, 3) := by decide +kernel
theorem dX11_ways_5 : decode cX11_ways 5 = .ok (.astore_n 3, 1) := by decide +kernel
theorem dX11_ways_6 : decode cX11_ways 6 = .ok (.aload_n 3, 1) := by decide +kernel
theorem dX11_ways_7 : decode cX11_ways 7 = .ok (.ifnonnull 5, 3) := by decide +kernel
theorem dX11_ways_10 : decode cX11_ways 10 = .ok (.iconst (-1), 1) := by decide +kernel
theorem dX11_ways_11 : decode cX11_ways 11 = .ok (.ireturn, 1) := by decide +kernel
theorem dX11_ways_12 : decode cX11_ways 12 = .ok (.aload_n 0, 1) := by decide +kernel
theorem dX11_ways_13 : decode cX11_ways 13 = .ok (.getfield 41, 3) := by decide +kernel
theorem dX11_ways_16 : decode cX11_ways 16 = .ok (.aload_n 3, 1) := by decide +kernel
theorem dX11_ways_17 : decode cX11_ways 17 = .ok (.invokevirtual 150, 3) := by decide +kernel
theorem dX11_ways_20 : decode cX11_ways 20 = .ok (.iload_n 2, 1) := by decide +kernel
theorem dX11_ways_21 : decode cX11_ways 21 = .ok (.iconst (-1), 1) := by decide +kernel
theorem dX11_ways_22 : decode cX11_ways 22 = .ok (.if_icmp .ne 16, 3) := by decide +kernel
theorem dX11_ways_25 : decode cX11_ways 25 = .ok (.aload_n 0, 1) := by decide +kernel
theorem dX11_ways_26 : decode cX11_ways 26 = .ok (.getfield 41, 3) := by decide +kernel
theorem dX11_ways_29 : decode cX11_ways 29 = .ok (.getfield 154, 3) := by decide +kernel
theorem dX11_ways_32 : decode cX11_ways 32 = .ok (.getfield 119, 3) := by decide +kernel
theorem dX11_ways_35 : decode cX11_ways 35 = .ok (.goto 14, 3) := by decide +kernel
theorem dX11_ways_38 : decode cX11_ways 38 = .ok (.aload_n 0, 1) := by decide +kernel
theorem dX11_ways_39 : decode cX11_ways 39 = .ok (.getfield 41, 3) := by decide +kernel
theorem dX11_ways_42 : decode cX11_ways 42 = .ok (.getfield 154, 3) := by decide +kernel
theorem dX11_ways_45 : decode cX11_ways 45 = .ok (.iload_n 2, 1) := by decide +kernel
theorem dX11_ways_46 : decode cX11_ways 46 = .ok (.invokevirtual 136, 3) := by decide +kernel
theorem dX11_ways_49 : decode cX11_ways 49 = .ok (.ireturn, 1) := by decide +kernel
theorem dX11_word_0 : decode cX11_word 0 = .ok (.aload_n 0, 1) := by decide +kernel
theorem dX11_word_1 : decode cX11_word 1 = .ok (.getfield 50, 3) := by decide +kernel
theorem dX11_word_4 : decode cX11_word 4 = .ok (.getfield 157, 3) := by decide +kernel
theorem dX11_word_7 : decode cX11_word 7 = .ok (.invokevirtual 116, 3) := by decide +kernel
theorem dX11_word_10 : decode cX11_word 10 = .ok (.ifCond .eq 6, 3) := by decide +kernel
theorem dX11_word_13 : decode cX11_word 13 = .ok (.bipush (-4), 2) := by decide +kernel
theorem dX11_word_15 : decode cX11_word 15 = .ok (.ireturn, 1) := by decide +kernel
theorem dX11_word_16 : decode cX11_word 16 = .ok (.aload_n 0, 1) := by decide +kernel
theorem dX11_word_17 : decode cX11_word 17 = .ok (.getfield 21, 3) := by decide +kernel
theorem dX11_word_20 : decode cX11_word 20 = .ok (.getfield 119, 3) := by decide +kernel
theorem dX11_word_23 : decode cX11_word 23 = .ok (.ifCond .ne 8, 3) := by decide +kernel
theorem dX11_word_26 : decode cX11_word 26 = .ok (.bipush (-5), 2) := by decide +kernel
theorem dX11_word_28 : decode cX11_word 28 = .ok (.goto 17, 3) := by decide +kernel
theorem dX11_word_31 : decode cX11_word 31 = .ok (.aload_n 0, 1) := by decide +kernel
theorem dX11_word_32 : decode cX11_word 32 = .ok (.getfield 50, 3) := by decide +kernel
theorem dX11_word_35 : decode cX11_word 35 = .ok (.getfield 157, 3) := by decide +kernel
theorem dX11_word_38 : decode cX11_word 38 = .ok (.aload_n 0, 1) := by decide +kernel
theorem dX11_word_39 : decode cX11_word 39 = .ok (.getfield 21, 3) := by decide +kernel
theorem dX11_word_42 : decode cX11_word 42 = .ok (.invokevirtual 160, 3) := by decide +kernel
theorem dX11_word_45 : decode cX11_word 45 = .ok (.ireturn, 1) := by decide +kernel
theorem dX11_count_0 : decode cX11_count 0 = .ok (.iload_n 1, 1) := by decide +kernel
theorem dX11_count_1 : decode cX11_count 1 = .ok (.iconst 0, 1) := by decide +kernel
theorem dX11_count_2 : decode cX11_count 2 = .ok (.bipush 7, 2) := by decide +kernel
theorem dX11_count_4 : decode cX11_count 4 = .ok (.invokestatic 92, 3) := by decide +kernel
theorem dX11_count_7 : decode cX11_count 7 = .ok (.ifCond .eq 23, 3) := by decide +kernel
theorem dX11_count_10 : decode cX11_count 10 = .ok (.iload_n 2, 1) := by decide +kernel
theorem dX11_count_11 : decode cX11_count 11 = .ok (.iconst 0, 1) := by decide +kernel
theorem dX11_count_12 : decode cX11_count 12 = .ok (.aload_n 0, 1) := by decide +kernel
theorem dX11_count_13 : decode cX11_count 13 = .ok (.getfield 50, 3) := by decide +kernel
theorem dX11_count_16 : decode cX11_count 16 = .ok (.getfield 157, 3) := by decide +kernel
theorem dX11_count_19 : decode cX11_count 19 = .ok (.getfield 164, 3) := by decide +kernel
theorem dX11_count_22 : decode cX11_count 22 = .ok (.iconst 1, 1) := by decide +kernel
theorem dX11_count_23 : decode cX11_count 23 = .ok (.isub, 1) := by decide +kernel
theorem dX11_count_24 : decode cX11_count 24 = .ok (.invokestatic 92, 3) := by decide +kernel
theorem dX11_count_27 : decode cX11_count 27 = .ok (.ifCond .ne 5, 3) := by decide +kernel
theorem dX11_count_30 : decode cX11_count 30 = .ok (.iconst (-1), 1) := by decide +kernel
theorem dX11_count_31 : decode cX11_count 31 = .ok (.ireturn, 1) := by decide +kernel
theorem dX11_count_32 : decode cX11_count 32 = .ok (.iload_n 3, 1) := by decide +kernel
theorem dX11_count_33 : decode cX11_count 33 = .ok (.iconst 0, 1) := by decide +kernel
theorem dX11_count_34 : decode cX11_count 34 = .ok (.sipush 1000, 3) := by decide +kernel
theorem dX11_count_37 : decode cX11_count 37 = .ok (.invokestatic 92, 3) := by decide +kernel
theorem dX11_count_40 : decode cX11_count 40 = .ok (.ifCond .ne 6, 3) := by decide +kernel
theorem dX11_count_43 : decode cX11_count 43 = .ok (.bipush (-2), 2) := by decide +kernel
theorem dX11_count_45 : decode cX11_count 45 = .ok (.ireturn, 1) := by decide +kernel
theorem dX11_count_46 : decode cX11_count 46 = .ok (.aload_n 0, 1) := by decide +kernel
theorem dX11_count_47 : decode cX11_count 47 = .ok (.getfield 50, 3) := by decide +kernel
theorem dX11_count_50 : decode cX11_count 50 = .ok (.getfield 167, 3) := by decide +kernel
theorem dX11_count_53 : decode cX11_count 53 = .ok (.iload_n 1, 1) := by decide +kernel
theorem dX11_count_54 : decode cX11_count 54 = .ok (.aaload, 1) := by decide +kernel
theorem dX11_count_55 : decode cX11_count 55 = .ok (.iload_n 2, 1) := by decide +kernel
theorem dX11_count_56 : decode cX11_count 56 = .ok (.iaload, 1) := by decide +kernel
theorem dX11_count_57 : decode cX11_count 57 = .ok (.istore 4, 2) := by decide +kernel
theorem dX11_count_59 : decode cX11_count 59 = .ok (.aload_n 0, 1) := by decide +kernel
theorem dX11_count_60 : decode cX11_count 60 = .ok (.getfield 50, 3) := by decide +kernel
theorem dX11_count_63 : decode cX11_count 63 = .ok (.getfield 167, 3) := by decide +kernel
theorem dX11_count_66 : decode cX11_count 66 = .ok (.iload_n 1, 1) := by decide +kernel
theorem dX11_count_67 : decode cX11_count 67 = .ok (.aaload, 1) := by decide +kernel
theorem dX11_count_68 : decode cX11_count 68 = .ok (.iload_n 2, 1) := by decide +kernel
theorem dX11_count_69 : decode cX11_count 69 = .ok (.iload_n 3, 1) := by decide +kernel
theorem dX11_count_70 : decode cX11_count 70 = .ok (.iastore, 1) := by decide +kernel
theorem dX11_count_71 : decode cX11_count 71 = .ok (.iload 4, 2) := by decide +kernel
theorem dX11_count_73 : decode cX11_count 73 = .ok (.ireturn, 1) := by decide +kernel
theorem dX11_room_0 : decode cX11_room 0 = .ok (.aload_n 0, 1) := by decide +kernel
theorem dX11_room_1 : decode cX11_room 1 = .ok (.iload_n 2, 1) := by decide +kernel
theorem dX11_room_2 : decode cX11_room 2 = .ok (.invokevirtual 88, 3) := by decide +kernel
theorem dX11_room_5 : decode cX11_room 5 = .ok (.astore 4, 2) := by decide +kernel
theorem dX11_room_7 : decode cX11_room 7 = .ok (.aload 4, 2) := by decide +kernel
theorem dX11_room_9 : decode cX11_room 9 = .ok (.ifnull 13, 3) := by decide +kernel
theorem dX11_room_12 : decode cX11_room 12 = .ok (.iload_n 1, 1) := by decide +kernel
theorem dX11_room_13 : decode cX11_room 13 = .ok (.iconst 0, 1) := by decide +kernel
theorem dX11_room_14 : decode cX11_room 14 = .ok (.bipush 7, 2) := by decide +kernel
theorem dX11_room_16 : decode cX11_room 16 = .ok (.invokestatic 92, 3) := by decide +kernel
theorem dX11_room_19 : decode cX11_room 19 = .ok (.ifCond .ne 5, 3) := by decide +kernel
theorem dX11_room_22 : decode cX11_room 22 = .ok (.iconst (-1), 1) := by decide +kernel
theorem dX11_room_23 : decode cX11_room 23 = .ok (.ireturn, 1) := by decide +kernel
theorem dX11_room_24 : decode cX11_room 24 = .ok (.iload_n 3, 1) := by decide +kernel
theorem dX11_room_25 : decode cX11_room 25 = .ok (.iconst 0, 1) := by decide +kernel
theorem dX11_room_26 : decode cX11_room 26 = .ok (.iconst 2, 1) := by decide +kernel
theorem dX11_room_27 : decode cX11_room 27 = .ok (.invokestatic 92, 3) := by decide +kernel
theorem dX11_room_30 : decode cX11_room 30 = .ok (.ifCond .ne 6, 3) := by decide +kernel
theorem dX11_room_33 : decode cX11_room 33 = .ok (.bipush (-2), 2) := by decide +kernel
theorem dX11_room_35 : decode cX11_room 35 = .ok (.ireturn, 1) := by decide +kernel
theorem dX11_room_36 : decode cX11_room 36 = .ok (.aload_n 0, 1) := by decide +kernel
theorem dX11_room_37 : decode cX11_room 37 = .ok (.getfield 50, 3) := by decide +kernel
theorem dX11_room_40 : decode cX11_room 40 = .ok (.aload 4, 2) := by decide +kernel
theorem dX11_room_42 : decode cX11_room 42 = .ok (.invokevirtual 171, 3) := by decide +kernel
theorem dX11_room_45 : decode cX11_room 45 = .ok (.aload_n 0, 1) := by decide +kernel
theorem dX11_room_46 : decode cX11_room 46 = .ok (.getfield 50, 3) := by decide +kernel
theorem dX11_room_49 : decode cX11_room 49 = .ok (.iload_n 1, 1) := by decide +kernel
theorem dX11_room_50 : decode cX11_room 50 = .ok (.invokevirtual 174, 3) := by decide +kernel
theorem dX11_room_53 : decode cX11_room 53 = .ok (.ifCond .ne 6, 3) := by decide +kernel
theorem dX11_room_56 : decode cX11_room 56 = .ok (.bipush (-5), 2) := by decide +kernel
theorem dX11_room_58 : decode cX11_room 58 = .ok (.ireturn, 1) := by decide +kernel
theorem dX11_room_59 : decode cX11_room 59 = .ok (.iload_n 3, 1) := by decide +kernel
theorem dX11_room_60 : decode cX11_room 60 = .ok (.ifCond .ne 12, 3) := by decide +kernel
theorem dX11_room_63 : decode cX11_room 63 = .ok (.aload_n 0, 1) := by decide +kernel
theorem dX11_room_64 : decode cX11_room 64 = .ok (.getfield 50, 3) := by decide +kernel
theorem dX11_room_67 : decode cX11_room 67 = .ok (.iload_n 1, 1) := by decide +kernel
theorem dX11_room_68 : decode cX11_room 68 = .ok (.invokevirtual 178, 3) := by decide +kernel
theorem dX11_room_71 : decode cX11_room 71 = .ok (.ireturn, 1) := by decide +kernel
theorem dX11_room_72 : decode cX11_room 72 = .ok (.iload_n 3, 1) := by decide +kernel
theorem dX11_room_73 : decode cX11_room 73 = .ok (.iconst 1, 1) := by decide +kernel
theorem dX11_room_74 : decode cX11_room 74 = .ok (.if_icmp .ne 14, 3) := by decide +kernel
theorem dX11_room_77 : decode cX11_room 77 = .ok (.aload_n 0, 1) := by decide +kernel
theorem dX11_room_78 : decode cX11_room 78 = .ok (.getfield 50, 3) := by decide +kernel
theorem dX11_room_81 : decode cX11_room 81 = .ok (.iload_n 1, 1) := by decide +kernel
theorem dX11_room_82 : decode cX11_room 82 = .ok (.invokevirtual 181, 3) := by decide +kernel
theorem dX11_room_85 : decode cX11_room 85 = .ok (.goto 11, 3) := by decide +kernel
theorem dX11_room_88 : decode cX11_room 88 = .ok (.aload_n 0, 1) := by decide +kernel
theorem dX11_room_89 : decode cX11_room 89 = .ok (.getfield 50, 3) := by decide +kernel
theorem dX11_room_92 : decode cX11_room 92 = .ok (.iload_n 1, 1) := by decide +kernel
theorem dX11_room_93 : decode cX11_room 93 = .ok (.invokevirtual 184, 3) := by decide +kernel
theorem dX11_room_96 : decode cX11_room 96 = .ok (.ireturn, 1) := by decide +kernel
theorem dX11_row_0 : decode cX11_row 0 = .ok (.aload_n 0, 1) := by decide +kernel
theorem dX11_row_1 : decode cX11_row 1 = .ok (.getfield 50, 3) := by decide +kernel
theorem dX11_row_4 : decode cX11_row 4 = .ok (.getfield 187, 3) := by decide +kernel
theorem dX11_row_7 : decode cX11_row 7 = .ok (.invokevirtual 116, 3) := by decide +kernel
theorem dX11_row_10 : decode cX11_row 10 = .ok (.ifCond .eq 6, 3) := by decide +kernel
theorem dX11_row_13 : decode cX11_row 13 = .ok (.bipush (-4), 2) := by decide +kernel
theorem dX11_row_15 : decode cX11_row 15 = .ok (.ireturn, 1) := by decide +kernel
theorem dX11_row_16 : decode cX11_row 16 = .ok (.aload_n 0, 1) := by decide +kernel
theorem dX11_row_17 : decode cX11_row 17 = .ok (.getfield 21, 3) := by decide +kernel
theorem dX11_row_20 : decode cX11_row 20 = .ok (.getfield 119, 3) := by decide +kernel
theorem dX11_row_23 : decode cX11_row 23 = .ok (.iconst 2, 1) := by decide +kernel
theorem dX11_row_24 : decode cX11_row 24 = .ok (.iconst 4, 1) := by decide +kernel
theorem dX11_row_25 : decode cX11_row 25 = .ok (.invokestatic 92, 3) := by decide +kernel
theorem dX11_row_28 : decode cX11_row 28 = .ok (.ifCond .eq 20, 3) := by decide +kernel
theorem dX11_row_31 : decode cX11_row 31 = .ok (.aload_n 0, 1) := by decide +kernel
theorem dX11_row_32 : decode cX11_row 32 = .ok (.getfield 50, 3) := by decide +kernel
theorem dX11_row_35 : decode cX11_row 35 = .ok (.getfield 187, 3) := by decide +kernel
theorem dX11_row_38 : decode cX11_row 38 = .ok (.aload_n 0, 1) := by decide +kernel
theorem dX11_row_39 : decode cX11_row 39 = .ok (.getfield 21, 3) := by decide +kernel
theorem dX11_row_42 : decode cX11_row 42 = .ok (.invokevirtual 160, 3) := by decide +kernel
theorem dX11_row_45 : decode cX11_row 45 = .ok (.goto 5, 3) := by decide +kernel
theorem dX11_row_48 : decode cX11_row 48 = .ok (.bipush (-5), 2) := by decide +kernel
theorem dX11_row_50 : decode cX11_row 50 = .ok (.ireturn, 1) := by decide +kernel
theorem dX11_chosen_0 : decode cX11_chosen 0 = .ok (.aload_n 0, 1) := by decide +kernel
theorem dX11_chosen_1 : decode cX11_chosen 1 = .ok (.iload_n 2, 1) := by decide +kernel
theorem dX11_chosen_2 : decode cX11_chosen 2 = .ok (.invokevirtual 88, 3) := by decide +kernel
theorem dX11_chosen_5 : decode cX11_chosen 5 = .ok (.astore 5, 2) := by decide +kernel
theorem dX11_chosen_7 : decode cX11_chosen 7 = .ok (.aload 5, 2) := by decide +kernel
theorem dX11_chosen_9 : decode cX11_chosen 9 = .ok (.ifnull 13, 3) := by decide +kernel
theorem dX11_chosen_12 : decode cX11_chosen 12 = .ok (.iload_n 1, 1) := by decide +kernel
theorem dX11_chosen_13 : decode cX11_chosen 13 = .ok (.iconst 0, 1) := by decide +kernel
theorem dX11_chosen_14 : decode cX11_chosen 14 = .ok (.bipush 7, 2) := by decide +kernel
theorem dX11_chosen_16 : decode cX11_chosen 16 = .ok (.invokestatic 92, 3) := by decide +kernel
theorem dX11_chosen_19 : decode cX11_chosen 19 = .ok (.ifCond .ne 5, 3) := by decide +kernel
theorem dX11_chosen_22 : decode cX11_chosen 22 = .ok (.iconst (-1), 1) := by decide +kernel
theorem dX11_chosen_23 : decode cX11_chosen 23 = .ok (.ireturn, 1) := by decide +kernel
theorem dX11_chosen_24 : decode cX11_chosen 24 = .ok (.iload_n 3, 1) := by decide +kernel
theorem dX11_chosen_25 : decode cX11_chosen 25 = .ok (.iconst 0, 1) := by decide +kernel
theorem dX11_chosen_26 : decode cX11_chosen 26 = .ok (.bipush 12, 2) := by decide +kernel
theorem dX11_chosen_28 : decode cX11_chosen 28 = .ok (.invokestatic 92, 3) := by decide +kernel
theorem dX11_chosen_31 : decode cX11_chosen 31 = .ok (.ifCond .eq 13, 3) := by decide +kernel
theorem dX11_chosen_34 : decode cX11_chosen 34 = .ok (.iload 4, 2) := by decide +kernel
theorem dX11_chosen_36 : decode cX11_chosen 36 = .ok (.iconst 0, 1) := by decide +kernel
theorem dX11_chosen_37 : decode cX11_chosen 37 = .ok (.iconst 1, 1) := by decide +kernel
theorem dX11_chosen_38 : decode cX11_chosen 38 = .ok (.invokestatic 92, 3) := by decide +kernel
theorem dX11_chosen_41 : decode cX11_chosen 41 = .ok (.ifCond .ne 6, 3) := by decide +kernel
theorem dX11_chosen_44 : decode cX11_chosen 44 = .ok (.bipush (-2), 2) := by decide +kernel
theorem dX11_chosen_46 : decode cX11_chosen 46 = .ok (.ireturn, 1) := by decide +kernel
theorem dX11_chosen_47 : decode cX11_chosen 47 = .ok (.aload_n 0, 1) := by decide +kernel
theorem dX11_chosen_48 : decode cX11_chosen 48 = .ok (.getfield 50, 3) := by decide +kernel
theorem dX11_chosen_51 : decode cX11_chosen 51 = .ok (.iload_n 1, 1) := by decide +kernel
theorem dX11_chosen_52 : decode cX11_chosen 52 = .ok (.aload 5, 2) := by decide +kernel
theorem dX11_chosen_54 : decode cX11_chosen 54 = .ok (.iload_n 3, 1) := by decide +kernel
theorem dX11_chosen_55 : decode cX11_chosen 55 = .ok (.invokevirtual 190, 3) := by decide +kernel
theorem dX11_chosen_58 : decode cX11_chosen 58 = .ok (.istore 6, 2) := by decide +kernel
theorem dX11_chosen_60 : decode cX11_chosen 60 = .ok (.iload 6, 2) := by decide +kernel
theorem dX11_chosen_62 : decode cX11_chosen 62 = .ok (.ifCond .ge 6, 3) := by decide +kernel
theorem dX11_chosen_65 : decode cX11_chosen 65 = .ok (.bipush (-5), 2) := by decide +kernel
theorem dX11_chosen_67 : decode cX11_chosen 67 = .ok (.ireturn, 1) := by decide +kernel
theorem dX11_chosen_68 : decode cX11_chosen 68 = .ok (.iload 4, 2) := by decide +kernel
theorem dX11_chosen_70 : decode cX11_chosen 70 = .ok (.ifCond .ne 8, 3) := by decide +kernel
theorem dX11_chosen_73 : decode cX11_chosen 73 = .ok (.iload 6, 2) := by decide +kernel
theorem dX11_chosen_75 : decode cX11_chosen 75 = .ok (.goto 13, 3) := by decide +kernel
theorem dX11_chosen_78 : decode cX11_chosen 78 = .ok (.aload_n 0, 1) := by decide +kernel
theorem dX11_chosen_79 : decode cX11_chosen 79 = .ok (.getfield 50, 3) := by decide +kernel
theorem dX11_chosen_82 : decode cX11_chosen 82 = .ok (.getfield 194, 3) := by decide +kernel
theorem dX11_chosen_85 : decode cX11_chosen 85 = .ok (.iload 6, 2) := by decide +kernel
theorem dX11_chosen_87 : decode cX11_chosen 87 = .ok (.iaload, 1) := by decide +kernel
theorem dX11_chosen_88 : decode cX11_chosen 88 = .ok (.ireturn, 1) := by decide +kernel
theorem dX11_reader_0 : decode cX11_reader 0 = .ok (.aload_n 0, 1) := by decide +kernel
theorem dX11_reader_1 : decode cX11_reader 1 = .ok (.iload_n 2, 1) := by decide +kernel
theorem dX11_reader_2 : decode cX11_reader 2 = .ok (.invokevirtual 197, 3) := by decide +kernel
theorem dX11_reader_5 : decode cX11_reader 5 = .ok (.ifnonnull 5, 3) := by decide +kernel
theorem dX11_reader_8 : decode cX11_reader 8 = .ok (.iconst (-1), 1) := by decide +kernel
theorem dX11_reader_9 : decode cX11_reader 9 = .ok (.ireturn, 1) := by decide +kernel
theorem dX11_reader_10 : decode cX11_reader 10 = .ok (.iload_n 1, 1) := by decide +kernel
theorem dX11_reader_11 : decode cX11_reader 11 = .ok (.iconst 5, 1) := by decide +kernel
theorem dX11_reader_12 : decode cX11_reader 12 = .ok (.bipush 90, 2) := by decide +kernel
theorem dX11_reader_14 : decode cX11_reader 14 = .ok (.invokestatic 92, 3) := by decide +kernel
theorem dX11_reader_17 : decode cX11_reader 17 = .ok (.ifCond .ne 6, 3) := by decide +kernel
theorem dX11_reader_20 : decode cX11_reader 20 = .ok (.bipush (-2), 2) := by decide +kernel
theorem dX11_reader_22 : decode cX11_reader 22 = .ok (.ireturn, 1) := by decide +kernel
theorem dX11_reader_23 : decode cX11_reader 23 = .ok (.aload_n 0, 1) := by decide +kernel
theorem dX11_reader_24 : decode cX11_reader 24 = .ok (.getfield 61, 3) := by decide +kernel
theorem dX11_reader_27 : decode cX11_reader 27 = .ok (.bipush 20, 2) := by decide +kernel
theorem dX11_reader_29 : decode cX11_reader 29 = .ok (.if_icmp .lt 6, 3) := by decide +kernel
theorem dX11_reader_32 : decode cX11_reader 32 = .ok (.bipush (-4), 2) := by decide +kernel
theorem dX11_reader_34 : decode cX11_reader 34 = .ok (.ireturn, 1) := by decide +kernel
theorem dX11_reader_35 : decode cX11_reader 35 = .ok (.aload_n 0, 1) := by decide +kernel
theorem dX11_reader_36 : decode cX11_reader 36 = .ok (.getfield 56, 3) := by decide +kernel
theorem dX11_reader_39 : decode cX11_reader 39 = .ok (.aload_n 0, 1) := by decide +kernel
theorem dX11_reader_40 : decode cX11_reader 40 = .ok (.getfield 61, 3) := by decide +kernel
theorem dX11_reader_43 : decode cX11_reader 43 = .ok (.aaload, 1) := by decide +kernel
theorem dX11_reader_44 : decode cX11_reader 44 = .ok (.astore 4, 2) := by decide +kernel
theorem dX11_reader_46 : decode cX11_reader 46 = .ok (.aload 4, 2) := by decide +kernel
theorem dX11_reader_48 : decode cX11_reader 48 = .ok (.iload_n 1, 1) := by decide +kernel
theorem dX11_reader_49 : decode cX11_reader 49 = .ok (.putfield 201, 3) := by decide +kernel
theorem dX11_reader_52 : decode cX11_reader 52 = .ok (.aload 4, 2) := by decide +kernel
theorem dX11_reader_54 : decode cX11_reader 54 = .ok (.iload_n 2, 1) := by decide +kernel
theorem dX11_reader_55 : decode cX11_reader 55 = .ok (.putfield 204, 3) := by decide +kernel
theorem dX11_reader_58 : decode cX11_reader 58 = .ok (.aload 4, 2) := by decide +kernel
theorem dX11_reader_60 : decode cX11_reader 60 = .ok (.iload_n 3, 1) := by decide +kernel
theorem dX11_reader_61 : decode cX11_reader 61 = .ok (.ifCond .eq 7, 3) := by decide +kernel
theorem dX11_reader_64 : decode cX11_reader 64 = .ok (.iconst 1, 1) := by decide +kernel
theorem dX11_reader_65 : decode cX11_reader 65 = .ok (.goto 4, 3) := by decide +kernel
theorem dX11_reader_68 : decode cX11_reader 68 = .ok (.iconst 0, 1) := by decide +kernel
theorem dX11_reader_69 : decode cX11_reader 69 = .ok (.putfield 207, 3) := by decide +kernel
theorem dX11_reader_72 : decode cX11_reader 72 = .ok (.aload_n 0, 1) := by decide +kernel
theorem dX11_reader_73 : decode cX11_reader 73 = .ok (.dup, 1) := by decide +kernel
theorem dX11_reader_74 : decode cX11_reader 74 = .ok (.getfield 61, 3) := by decide +kernel
theorem dX11_reader_77 : decode cX11_reader 77 = .ok (.iconst 1, 1) := by decide +kernel
theorem dX11_reader_78 : decode cX11_reader 78 = .ok (.iadd, 1) := by decide +kernel
theorem dX11_reader_79 : decode cX11_reader 79 = .ok (.putfield 61, 3) := by decide +kernel
theorem dX11_reader_82 : decode cX11_reader 82 = .ok (.aload_n 0, 1) := by decide +kernel
theorem dX11_reader_83 : decode cX11_reader 83 = .ok (.getfield 61, 3) := by decide +kernel
theorem dX11_reader_86 : decode cX11_reader 86 = .ok (.iconst 1, 1) := by decide +kernel
theorem dX11_reader_87 : decode cX11_reader 87 = .ok (.isub, 1) := by decide +kernel
theorem dX11_reader_88 : decode cX11_reader 88 = .ok (.ireturn, 1) := by decide +kernel
theorem dX11_know_0 : decode cX11_know 0 = .ok (.aload_n 0, 1) := by decide +kernel
theorem dX11_know_1 : decode cX11_know 1 = .ok (.iload_n 1, 1) := by decide +kernel
theorem dX11_know_2 : decode cX11_know 2 = .ok (.invokevirtual 210, 3) := by decide +kernel
theorem dX11_know_5 : decode cX11_know 5 = .ok (.astore 4, 2) := by decide +kernel
theorem dX11_know_7 : decode cX11_know 7 = .ok (.aload 4, 2) := by decide +kernel
theorem dX11_know_9 : decode cX11_know 9 = .ok (.ifnull 11, 3) := by decide +kernel
theorem dX11_know_12 : decode cX11_know 12 = .ok (.aload_n 0, 1) := by decide +kernel
theorem dX11_know_13 : decode cX11_know 13 = .ok (.iload_n 2, 1) := by decide +kernel
theorem dX11_know_14 : decode cX11_know 14 = .ok (.invokevirtual 88, 3) := by decide +kernel
theorem dX11_know_17 : decode cX11_know 17 = .ok (.ifnonnull 5, 3) := by decide +kernel
theorem dX11_know_20 : decode cX11_know 20 = .ok (.iconst (-1), 1) := by decide +kernel
theorem dX11_know_21 : decode cX11_know 21 = .ok (.ireturn, 1) := by decide +kernel
theorem dX11_know_22 : decode cX11_know 22 = .ok (.iload_n 3, 1) := by decide +kernel
theorem dX11_know_23 : decode cX11_know 23 = .ok (.iconst 0, 1) := by decide +kernel
theorem dX11_know_24 : decode cX11_know 24 = .ok (.bipush 50, 2) := by decide +kernel
theorem dX11_know_26 : decode cX11_know 26 = .ok (.invokestatic 92, 3) := by decide +kernel
theorem dX11_know_29 : decode cX11_know 29 = .ok (.ifCond .ne 6, 3) := by decide +kernel
theorem dX11_know_32 : decode cX11_know 32 = .ok (.bipush (-2), 2) := by decide +kernel
theorem dX11_know_34 : decode cX11_know 34 = .ok (.ireturn, 1) := by decide +kernel
theorem dX11_know_35 : decode cX11_know 35 = .ok (.aload 4, 2) := by decide +kernel
theorem dX11_know_37 : decode cX11_know 37 = .ok (.getfield 214, 3) := by decide +kernel
theorem dX11_know_40 : decode cX11_know 40 = .ok (.iload_n 2, 1) := by decide +kernel
theorem dX11_know_41 : decode cX11_know 41 = .ok (.iaload, 1) := by decide +kernel
theorem dX11_know_42 : decode cX11_know 42 = .ok (.istore 5, 2) := by decide +kernel
theorem dX11_know_44 : decode cX11_know 44 = .ok (.aload 4, 2) := by decide +kernel
theorem dX11_know_46 : decode cX11_know 46 = .ok (.getfield 214, 3) := by decide +kernel
theorem dX11_know_49 : decode cX11_know 49 = .ok (.iload_n 2, 1) := by decide +kernel
theorem dX11_know_50 : decode cX11_know 50 = .ok (.iload_n 3, 1) := by decide +kernel
theorem dX11_know_51 : decode cX11_know 51 = .ok (.iastore, 1) := by decide +kernel
theorem dX11_know_52 : decode cX11_know 52 = .ok (.iload 5, 2) := by decide +kernel
theorem dX11_know_54 : decode cX11_know 54 = .ok (.ireturn, 1) := by decide +kernel
theorem dX11_move_0 : decode cX11_move 0 = .ok (.aload_n 0, 1) := by decide +kernel
theorem dX11_move_1 : decode cX11_move 1 = .ok (.iload_n 1, 1) := by decide +kernel
theorem dX11_move_2 : decode cX11_move 2 = .ok (.invokevirtual 210, 3) := by decide +kernel
theorem dX11_move_5 : decode cX11_move 5 = .ok (.astore_n 3, 1) := by decide +kernel
theorem dX11_move_6 : decode cX11_move 6 = .ok (.aload_n 3, 1) := by decide +kernel
theorem dX11_move_7 : decode cX11_move 7 = .ok (.ifnull 11, 3) := by decide +kernel
theorem dX11_move_10 : decode cX11_move 10 = .ok (.aload_n 0, 1) := by decide +kernel
theorem dX11_move_11 : decode cX11_move 11 = .ok (.iload_n 2, 1) := by decide +kernel
theorem dX11_move_12 : decode cX11_move 12 = .ok (.invokevirtual 197, 3) := by decide +kernel
theorem dX11_move_15 : decode cX11_move 15 = .ok (.ifnonnull 5, 3) := by decide +kernel
theorem dX11_move_18 : decode cX11_move 18 = .ok (.iconst (-1), 1) := by decide +kernel
theorem dX11_move_19 : decode cX11_move 19 = .ok (.ireturn, 1) := by decide +kernel
theorem dX11_move_20 : decode cX11_move 20 = .ok (.aload_n 3, 1) := by decide +kernel
theorem dX11_move_21 : decode cX11_move 21 = .ok (.getfield 204, 3) := by decide +kernel
theorem dX11_move_24 : decode cX11_move 24 = .ok (.istore 4, 2) := by decide +kernel
theorem dX11_move_26 : decode cX11_move 26 = .ok (.aload_n 3, 1) := by decide +kernel
theorem dX11_move_27 : decode cX11_move 27 = .ok (.iload_n 2, 1) := by decide +kernel
theorem dX11_move_28 : decode cX11_move 28 = .ok (.putfield 204, 3) := by decide +kernel
theorem dX11_move_31 : decode cX11_move 31 = .ok (.iload 4, 2) := by decide +kernel
theorem dX11_move_33 : decode cX11_move 33 = .ok (.ireturn, 1) := by decide +kernel
theorem dX11_about_0 : decode cX11_about 0 = .ok (.aload_n 0, 1) := by decide +kernel
theorem dX11_about_1 : decode cX11_about 1 = .ok (.iload_n 1, 1) := by decide +kernel
theorem dX11_about_2 : decode cX11_about 2 = .ok (.invokevirtual 210, 3) := by decide +kernel
theorem dX11_about_5 : decode cX11_about 5 = .ok (.astore_n 3, 1) := by decide +kernel
theorem dX11_about_6 : decode cX11_about 6 = .ok (.aload_n 3, 1) := by decide +kernel
theorem dX11_about_7 : decode cX11_about 7 = .ok (.ifnonnull 5, 3) := by decide +kernel
theorem dX11_about_10 : decode cX11_about 10 = .ok (.iconst (-1), 1) := by decide +kernel
theorem dX11_about_11 : decode cX11_about 11 = .ok (.ireturn, 1) := by decide +kernel
theorem dX11_about_12 : decode cX11_about 12 = .ok (.iload_n 2, 1) := by decide +kernel
theorem dX11_about_13 : decode cX11_about 13 = .ok (.tableswitch 60 0 4 #[35, 40, 45, 50, 55], 35) := by decide +kernel
theorem dX11_about_48 : decode cX11_about 48 = .ok (.aload_n 3, 1) := by decide +kernel
theorem dX11_about_49 : decode cX11_about 49 = .ok (.getfield 201, 3) := by decide +kernel
theorem dX11_about_52 : decode cX11_about 52 = .ok (.ireturn, 1) := by decide +kernel
theorem dX11_about_53 : decode cX11_about 53 = .ok (.aload_n 3, 1) := by decide +kernel
theorem dX11_about_54 : decode cX11_about 54 = .ok (.getfield 204, 3) := by decide +kernel
theorem dX11_about_57 : decode cX11_about 57 = .ok (.ireturn, 1) := by decide +kernel
theorem dX11_about_58 : decode cX11_about 58 = .ok (.aload_n 3, 1) := by decide +kernel
theorem dX11_about_59 : decode cX11_about 59 = .ok (.getfield 207, 3) := by decide +kernel
theorem dX11_about_62 : decode cX11_about 62 = .ok (.ireturn, 1) := by decide +kernel
theorem dX11_about_63 : decode cX11_about 63 = .ok (.aload_n 3, 1) := by decide +kernel
theorem dX11_about_64 : decode cX11_about 64 = .ok (.invokevirtual 217, 3) := by decide +kernel
theorem dX11_about_67 : decode cX11_about 67 = .ok (.ireturn, 1) := by decide +kernel
theorem dX11_about_68 : decode cX11_about 68 = .ok (.aload_n 3, 1) := by decide +kernel
theorem dX11_about_69 : decode cX11_about 69 = .ok (.invokevirtual 220, 3) := by decide +kernel
theorem dX11_about_72 : decode cX11_about 72 = .ok (.ireturn, 1) := by decide +kernel
theorem dX11_about_73 : decode cX11_about 73 = .ok (.iload_n 2, 1) := by decide +kernel
theorem dX11_about_74 : decode cX11_about 74 = .ok (.bipush 10, 2) := by decide +kernel
theorem dX11_about_76 : decode cX11_about 76 = .ok (.bipush 14, 2) := by decide +kernel
theorem dX11_about_78 : decode cX11_about 78 = .ok (.invokestatic 92, 3) := by decide +kernel
theorem dX11_about_81 : decode cX11_about 81 = .ok (.ifCond .eq 15, 3) := by decide +kernel
theorem dX11_about_84 : decode cX11_about 84 = .ok (.aload_n 3, 1) := by decide +kernel
theorem dX11_about_85 : decode cX11_about 85 = .ok (.getfield 214, 3) := by decide +kernel
theorem dX11_about_88 : decode cX11_about 88 = .ok (.iload_n 2, 1) := by decide +kernel
theorem dX11_about_89 : decode cX11_about 89 = .ok (.bipush 10, 2) := by decide +kernel
theorem dX11_about_91 : decode cX11_about 91 = .ok (.isub, 1) := by decide +kernel
theorem dX11_about_92 : decode cX11_about 92 = .ok (.iaload, 1) := by decide +kernel
theorem dX11_about_93 : decode cX11_about 93 = .ok (.goto 5, 3) := by decide +kernel
theorem dX11_about_96 : decode cX11_about 96 = .ok (.bipush (-2), 2) := by decide +kernel
theorem dX11_about_98 : decode cX11_about 98 = .ok (.ireturn, 1) := by decide +kernel
theorem dX11_near_0 : decode cX11_near 0 = .ok (.aload_n 0, 1) := by decide +kernel
theorem dX11_near_1 : decode cX11_near 1 = .ok (.iload_n 1, 1) := by decide +kernel
theorem dX11_near_2 : decode cX11_near 2 = .ok (.invokevirtual 88, 3) := by decide +kernel
theorem dX11_near_5 : decode cX11_near 5 = .ok (.astore_n 3, 1) := by decide +kernel
theorem dX11_near_6 : decode cX11_near 6 = .ok (.aload_n 3, 1) := by decide +kernel
theorem dX11_near_7 : decode cX11_near 7 = .ok (.ifnonnull 5, 3) := by decide +kernel
theorem dX11_near_10 : decode cX11_near 10 = .ok (.iconst (-1), 1) := by decide +kernel
theorem dX11_near_11 : decode cX11_near 11 = .ok (.ireturn, 1) := by decide +kernel
theorem dX11_near_12 : decode cX11_near 12 = .ok (.iload_n 2, 1) := by decide +kernel
theorem dX11_near_13 : decode cX11_near 13 = .ok (.iconst 1, 1) := by decide +kernel
theorem dX11_near_14 : decode cX11_near 14 = .ok (.bipush 63, 2) := by decide +kernel
theorem dX11_near_16 : decode cX11_near 16 = .ok (.invokestatic 92, 3) := by decide +kernel
theorem dX11_near_19 : decode cX11_near 19 = .ok (.ifCond .eq 11, 3) := by decide +kernel
theorem dX11_near_22 : decode cX11_near 22 = .ok (.aload_n 3, 1) := by decide +kernel
theorem dX11_near_23 : decode cX11_near 23 = .ok (.iload_n 2, 1) := by decide +kernel
theorem dX11_near_24 : decode cX11_near 24 = .ok (.invokevirtual 223, 3) := by decide +kernel
theorem dX11_near_27 : decode cX11_near 27 = .ok (.goto 5, 3) := by decide +kernel
theorem dX11_near_30 : decode cX11_near 30 = .ok (.bipush (-2), 2) := by decide +kernel
theorem dX11_near_32 : decode cX11_near 32 = .ok (.ireturn, 1) := by decide +kernel
theorem dX11_pace_0 : decode cX11_pace 0 = .ok (.aload_n 0, 1) := by decide +kernel
theorem dX11_pace_1 : decode cX11_pace 1 = .ok (.iload_n 1, 1) := by decide +kernel
theorem dX11_pace_2 : decode cX11_pace 2 = .ok (.invokevirtual 210, 3) := by decide +kernel
theorem dX11_pace_5 : decode cX11_pace 5 = .ok (.astore_n 3, 1) := by decide +kernel
theorem dX11_pace_6 : decode cX11_pace 6 = .ok (.aload_n 0, 1) := by decide +kernel
theorem dX11_pace_7 : decode cX11_pace 7 = .ok (.iload_n 2, 1) := by decide +kernel
theorem dX11_pace_8 : decode cX11_pace 8 = .ok (.invokevirtual 88, 3) := by decide +kernel
theorem dX11_pace_11 : decode cX11_pace 11 = .ok (.astore 4, 2) := by decide +kernel
theorem dX11_pace_13 : decode cX11_pace 13 = .ok (.aload_n 3, 1) := by decide +kernel
theorem dX11_pace_14 : decode cX11_pace 14 = .ok (.ifnull 8, 3) := by decide +kernel
theorem dX11_pace_17 : decode cX11_pace 17 = .ok (.aload 4, 2) := by decide +kernel
theorem dX11_pace_19 : decode cX11_pace 19 = .ok (.ifnonnull 5, 3) := by decide +kernel
theorem dX11_pace_22 : decode cX11_pace 22 = .ok (.iconst (-1), 1) := by decide +kernel
theorem dX11_pace_23 : decode cX11_pace 23 = .ok (.ireturn, 1) := by decide +kernel
theorem dX11_pace_24 : decode cX11_pace 24 = .ok (.aload_n 3, 1) := by decide +kernel
theorem dX11_pace_25 : decode cX11_pace 25 = .ok (.getfield 214, 3) := by decide +kernel
theorem dX11_pace_28 : decode cX11_pace 28 = .ok (.iload_n 2, 1) := by decide +kernel
theorem dX11_pace_29 : decode cX11_pace 29 = .ok (.iaload, 1) := by decide +kernel
theorem dX11_pace_30 : decode cX11_pace 30 = .ok (.ifCond .ne 6, 3) := by decide +kernel
theorem dX11_pace_33 : decode cX11_pace 33 = .ok (.bipush (-3), 2) := by decide +kernel
theorem dX11_pace_35 : decode cX11_pace 35 = .ok (.ireturn, 1) := by decide +kernel
theorem dX11_pace_36 : decode cX11_pace 36 = .ok (.aload_n 0, 1) := by decide +kernel
theorem dX11_pace_37 : decode cX11_pace 37 = .ok (.getfield 34, 3) := by decide +kernel
theorem dX11_pace_40 : decode cX11_pace 40 = .ok (.aload 4, 2) := by decide +kernel
theorem dX11_pace_42 : decode cX11_pace 42 = .ok (.aload_n 0, 1) := by decide +kernel
theorem dX11_pace_43 : decode cX11_pace 43 = .ok (.getfield 21, 3) := by decide +kernel
theorem dX11_pace_46 : decode cX11_pace 46 = .ok (.invokevirtual 126, 3) := by decide +kernel
theorem dX11_pace_49 : decode cX11_pace 49 = .ok (.ifCond .ne 6, 3) := by decide +kernel
theorem dX11_pace_52 : decode cX11_pace 52 = .ok (.bipush (-5), 2) := by decide +kernel
theorem dX11_pace_54 : decode cX11_pace 54 = .ok (.ireturn, 1) := by decide +kernel
theorem dX11_pace_55 : decode cX11_pace 55 = .ok (.iconst 0, 1) := by decide +kernel
theorem dX11_pace_56 : decode cX11_pace 56 = .ok (.istore 5, 2) := by decide +kernel
theorem dX11_pace_58 : decode cX11_pace 58 = .ok (.iconst 0, 1) := by decide +kernel
theorem dX11_pace_59 : decode cX11_pace 59 = .ok (.istore 6, 2) := by decide +kernel
theorem dX11_pace_61 : decode cX11_pace 61 = .ok (.iload 6, 2) := by decide +kernel
theorem dX11_pace_63 : decode cX11_pace 63 = .ok (.aload_n 0, 1) := by decide +kernel
theorem dX11_pace_64 : decode cX11_pace 64 = .ok (.getfield 34, 3) := by decide +kernel
theorem dX11_pace_67 : decode cX11_pace 67 = .ok (.getfield 130, 3) := by decide +kernel
theorem dX11_pace_70 : decode cX11_pace 70 = .ok (.getfield 119, 3) := by decide +kernel
theorem dX11_pace_73 : decode cX11_pace 73 = .ok (.if_icmp .ge 48, 3) := by decide +kernel
theorem dX11_pace_76 : decode cX11_pace 76 = .ok (.aload_n 0, 1) := by decide +kernel
theorem dX11_pace_77 : decode cX11_pace 77 = .ok (.getfield 34, 3) := by decide +kernel
theorem dX11_pace_80 : decode cX11_pace 80 = .ok (.getfield 130, 3) := by decide +kernel
theorem dX11_pace_83 : decode cX11_pace 83 = .ok (.iload 6, 2) := by decide +kernel
theorem dX11_pace_85 : decode cX11_pace 85 = .ok (.invokevirtual 136, 3) := by decide +kernel
theorem dX11_pace_88 : decode cX11_pace 88 = .ok (.istore 7, 2) := by decide +kernel
theorem dX11_pace_90 : decode cX11_pace 90 = .ok (.iload 5, 2) := by decide +kernel
theorem dX11_pace_92 : decode cX11_pace 92 = .ok (.bipush 10, 2) := by decide +kernel
theorem dX11_pace_94 : decode cX11_pace 94 = .ok (.iconst 2, 1) := by decide +kernel
theorem dX11_pace_95 : decode cX11_pace 95 = .ok (.iload 7, 2) := by decide +kernel
theorem dX11_pace_97 : decode cX11_pace 97 = .ok (.invokestatic 226, 3) := by decide +kernel
theorem dX11_pace_100 : decode cX11_pace 100 = .ok (.imul, 1) := by decide +kernel
theorem dX11_pace_101 : decode cX11_pace 101 = .ok (.iadd, 1) := by decide +kernel
theorem dX11_pace_102 : decode cX11_pace 102 = .ok (.iconst 3, 1) := by decide +kernel
theorem dX11_pace_103 : decode cX11_pace 103 = .ok (.aload 4, 2) := by decide +kernel
theorem dX11_pace_105 : decode cX11_pace 105 = .ok (.iload 7, 2) := by decide +kernel
theorem dX11_pace_107 : decode cX11_pace 107 = .ok (.invokevirtual 223, 3) := by decide +kernel
theorem dX11_pace_110 : decode cX11_pace 110 = .ok (.imul, 1) := by decide +kernel
theorem dX11_pace_111 : decode cX11_pace 111 = .ok (.iadd, 1) := by decide +kernel
theorem dX11_pace_112 : decode cX11_pace 112 = .ok (.iadd, 1) := by decide +kernel
theorem dX11_pace_113 : decode cX11_pace 113 = .ok (.istore 5, 2) := by decide +kernel
theorem dX11_pace_115 : decode cX11_pace 115 = .ok (.iinc 6 1, 3) := by decide +kernel
theorem dX11_pace_118 : decode cX11_pace 118 = .ok (.goto (-57), 3) := by decide +kernel
theorem dX11_pace_121 : decode cX11_pace 121 = .ok (.bipush 100, 2) := by decide +kernel
theorem dX11_pace_123 : decode cX11_pace 123 = .ok (.sipush 300, 3) := by decide +kernel
theorem dX11_pace_126 : decode cX11_pace 126 = .ok (.aload_n 3, 1) := by decide +kernel
theorem dX11_pace_127 : decode cX11_pace 127 = .ok (.getfield 214, 3) := by decide +kernel
theorem dX11_pace_130 : decode cX11_pace 130 = .ok (.iload_n 2, 1) := by decide +kernel
theorem dX11_pace_131 : decode cX11_pace 131 = .ok (.iaload, 1) := by decide +kernel
theorem dX11_pace_132 : decode cX11_pace 132 = .ok (.iconst 1, 1) := by decide +kernel
theorem dX11_pace_133 : decode cX11_pace 133 = .ok (.iadd, 1) := by decide +kernel
theorem dX11_pace_134 : decode cX11_pace 134 = .ok (.idiv, 1) := by decide +kernel
theorem dX11_pace_135 : decode cX11_pace 135 = .ok (.iadd, 1) := by decide +kernel
theorem dX11_pace_136 : decode cX11_pace 136 = .ok (.iconst 0, 1) := by decide +kernel
theorem dX11_pace_137 : decode cX11_pace 137 = .ok (.aload_n 3, 1) := by decide +kernel
theorem dX11_pace_138 : decode cX11_pace 138 = .ok (.getfield 201, 3) := by decide +kernel
theorem dX11_pace_141 : decode cX11_pace 141 = .ok (.bipush 60, 2) := by decide +kernel
theorem dX11_pace_143 : decode cX11_pace 143 = .ok (.isub, 1) := by decide +kernel
theorem dX11_pace_144 : decode cX11_pace 144 = .ok (.invokestatic 231, 3) := by decide +kernel
theorem dX11_pace_147 : decode cX11_pace 147 = .ok (.iadd, 1) := by decide +kernel
theorem dX11_pace_148 : decode cX11_pace 148 = .ok (.istore 6, 2) := by decide +kernel
theorem dX11_pace_150 : decode cX11_pace 150 = .ok (.iload 5, 2) := by decide +kernel
theorem dX11_pace_152 : decode cX11_pace 152 = .ok (.iload 6, 2) := by decide +kernel
theorem dX11_pace_154 : decode cX11_pace 154 = .ok (.imul, 1) := by decide +kernel
theorem dX11_pace_155 : decode cX11_pace 155 = .ok (.bipush 100, 2) := by decide +kernel
theorem dX11_pace_157 : decode cX11_pace 157 = .ok (.idiv, 1) := by decide +kernel
theorem dX11_pace_158 : decode cX11_pace 158 = .ok (.ireturn, 1) := by decide +kernel
theorem dX11_learn_0 : decode cX11_learn 0 = .ok (.aload_n 0, 1) := by decide +kernel
theorem dX11_learn_1 : decode cX11_learn 1 = .ok (.iload_n 1, 1) := by decide +kernel
theorem dX11_learn_2 : decode cX11_learn 2 = .ok (.invokevirtual 210, 3) := by decide +kernel
theorem dX11_learn_5 : decode cX11_learn 5 = .ok (.astore_n 3, 1) := by decide +kernel
theorem dX11_learn_6 : decode cX11_learn 6 = .ok (.aload_n 0, 1) := by decide +kernel
theorem dX11_learn_7 : decode cX11_learn 7 = .ok (.iload_n 2, 1) := by decide +kernel
theorem dX11_learn_8 : decode cX11_learn 8 = .ok (.invokevirtual 88, 3) := by decide +kernel
theorem dX11_learn_11 : decode cX11_learn 11 = .ok (.astore 4, 2) := by decide +kernel
theorem dX11_learn_13 : decode cX11_learn 13 = .ok (.aload_n 3, 1) := by decide +kernel
theorem dX11_learn_14 : decode cX11_learn 14 = .ok (.ifnull 8, 3) := by decide +kernel
theorem dX11_learn_17 : decode cX11_learn 17 = .ok (.aload 4, 2) := by decide +kernel
theorem dX11_learn_19 : decode cX11_learn 19 = .ok (.ifnonnull 5, 3) := by decide +kernel
theorem dX11_learn_22 : decode cX11_learn 22 = .ok (.iconst (-1), 1) := by decide +kernel
theorem dX11_learn_23 : decode cX11_learn 23 = .ok (.ireturn, 1) := by decide +kernel
theorem dX11_learn_24 : decode cX11_learn 24 = .ok (.aload_n 3, 1) := by decide +kernel
theorem dX11_learn_25 : decode cX11_learn 25 = .ok (.getfield 214, 3) := by decide +kernel
theorem dX11_learn_28 : decode cX11_learn 28 = .ok (.iload_n 2, 1) := by decide +kernel
theorem dX11_learn_29 : decode cX11_learn 29 = .ok (.iaload, 1) := by decide +kernel
theorem dX11_learn_30 : decode cX11_learn 30 = .ok (.ifCond .le 5, 3) := by decide +kernel
theorem dX11_learn_33 : decode cX11_learn 33 = .ok (.iconst 0, 1) := by decide +kernel
theorem dX11_learn_34 : decode cX11_learn 34 = .ok (.ireturn, 1) := by decide +kernel
theorem dX11_learn_35 : decode cX11_learn 35 = .ok (.aload 4, 2) := by decide +kernel
theorem dX11_learn_37 : decode cX11_learn 37 = .ok (.aload_n 0, 1) := by decide +kernel
theorem dX11_learn_38 : decode cX11_learn 38 = .ok (.aload_n 3, 1) := by decide +kernel
theorem dX11_learn_39 : decode cX11_learn 39 = .ok (.invokevirtual 217, 3) := by decide +kernel
theorem dX11_learn_42 : decode cX11_learn 42 = .ok (.invokevirtual 88, 3) := by decide +kernel
theorem dX11_learn_45 : decode cX11_learn 45 = .ok (.invokevirtual 237, 3) := by decide +kernel
theorem dX11_learn_48 : decode cX11_learn 48 = .ok (.istore 5, 2) := by decide +kernel
theorem dX11_learn_50 : decode cX11_learn 50 = .ok (.aload_n 3, 1) := by decide +kernel
theorem dX11_learn_51 : decode cX11_learn 51 = .ok (.getfield 201, 3) := by decide +kernel
theorem dX11_learn_54 : decode cX11_learn 54 = .ok (.bipush 70, 2) := by decide +kernel
theorem dX11_learn_56 : decode cX11_learn 56 = .ok (.if_icmp .le 13, 3) := by decide +kernel
theorem dX11_learn_59 : decode cX11_learn 59 = .ok (.iload 5, 2) := by decide +kernel
theorem dX11_learn_61 : decode cX11_learn 61 = .ok (.bipush 14, 2) := by decide +kernel
theorem dX11_learn_63 : decode cX11_learn 63 = .ok (.if_icmp .lt 6, 3) := by decide +kernel
theorem dX11_learn_66 : decode cX11_learn 66 = .ok (.bipush (-6), 2) := by decide +kernel
theorem dX11_learn_68 : decode cX11_learn 68 = .ok (.ireturn, 1) := by decide +kernel
theorem dX11_learn_69 : decode cX11_learn 69 = .ok (.iconst 2, 1) := by decide +kernel
theorem dX11_learn_70 : decode cX11_learn 70 = .ok (.iload 5, 2) := by decide +kernel
theorem dX11_learn_72 : decode cX11_learn 72 = .ok (.imul, 1) := by decide +kernel
theorem dX11_learn_73 : decode cX11_learn 73 = .ok (.iconst 3, 1) := by decide +kernel
theorem dX11_learn_74 : decode cX11_learn 74 = .ok (.aload 4, 2) := by decide +kernel
theorem dX11_learn_76 : decode cX11_learn 76 = .ok (.getfield 112, 3) := by decide +kernel
theorem dX11_learn_79 : decode cX11_learn 79 = .ok (.getfield 164, 3) := by decide +kernel
theorem dX11_learn_82 : decode cX11_learn 82 = .ok (.imul, 1) := by decide +kernel
theorem dX11_learn_83 : decode cX11_learn 83 = .ok (.iadd, 1) := by decide +kernel
theorem dX11_learn_84 : decode cX11_learn 84 = .ok (.bipush 100, 2) := by decide +kernel
theorem dX11_learn_86 : decode cX11_learn 86 = .ok (.aload_n 3, 1) := by decide +kernel
theorem dX11_learn_87 : decode cX11_learn 87 = .ok (.getfield 201, 3) := by decide +kernel
theorem dX11_learn_90 : decode cX11_learn 90 = .ok (.iadd, 1) := by decide +kernel
theorem dX11_learn_91 : decode cX11_learn 91 = .ok (.imul, 1) := by decide +kernel
theorem dX11_learn_92 : decode cX11_learn 92 = .ok (.bipush 100, 2) := by decide +kernel
theorem dX11_learn_94 : decode cX11_learn 94 = .ok (.idiv, 1) := by decide +kernel
theorem dX11_learn_95 : decode cX11_learn 95 = .ok (.ireturn, 1) := by decide +kernel
theorem dX11_shelf_0 : decode cX11_shelf 0 = .ok (.aload_n 0, 1) := by decide +kernel
theorem dX11_shelf_1 : decode cX11_shelf 1 = .ok (.iload_n 1, 1) := by decide +kernel
theorem dX11_shelf_2 : decode cX11_shelf 2 = .ok (.invokevirtual 197, 3) := by decide +kernel
theorem dX11_shelf_5 : decode cX11_shelf 5 = .ok (.astore 5, 2) := by decide +kernel
theorem dX11_shelf_7 : decode cX11_shelf 7 = .ok (.aload 5, 2) := by decide +kernel
theorem dX11_shelf_9 : decode cX11_shelf 9 = .ok (.ifnull 21, 3) := by decide +kernel
theorem dX11_shelf_12 : decode cX11_shelf 12 = .ok (.iload_n 2, 1) := by decide +kernel
theorem dX11_shelf_13 : decode cX11_shelf 13 = .ok (.iconst 0, 1) := by decide +kernel
theorem dX11_shelf_14 : decode cX11_shelf 14 = .ok (.bipush 7, 2) := by decide +kernel
theorem dX11_shelf_16 : decode cX11_shelf 16 = .ok (.invokestatic 92, 3) := by decide +kernel
theorem dX11_shelf_19 : decode cX11_shelf 19 = .ok (.ifCond .eq 11, 3) := by decide +kernel
theorem dX11_shelf_22 : decode cX11_shelf 22 = .ok (.aload_n 0, 1) := by decide +kernel
theorem dX11_shelf_23 : decode cX11_shelf 23 = .ok (.iload_n 3, 1) := by decide +kernel
theorem dX11_shelf_24 : decode cX11_shelf 24 = .ok (.invokevirtual 88, 3) := by decide +kernel
theorem dX11_shelf_27 : decode cX11_shelf 27 = .ok (.ifnonnull 5, 3) := by decide +kernel
theorem dX11_shelf_30 : decode cX11_shelf 30 = .ok (.iconst (-1), 1) := by decide +kernel
theorem dX11_shelf_31 : decode cX11_shelf 31 = .ok (.ireturn, 1) := by decide +kernel
theorem dX11_shelf_32 : decode cX11_shelf 32 = .ok (.iload 4, 2) := by decide +kernel
theorem dX11_shelf_34 : decode cX11_shelf 34 = .ok (.iconst 0, 1) := by decide +kernel
theorem dX11_shelf_35 : decode cX11_shelf 35 = .ok (.bipush 100, 2) := by decide +kernel
theorem dX11_shelf_37 : decode cX11_shelf 37 = .ok (.invokestatic 92, 3) := by decide +kernel
theorem dX11_shelf_40 : decode cX11_shelf 40 = .ok (.ifCond .ne 6, 3) := by decide +kernel
theorem dX11_shelf_43 : decode cX11_shelf 43 = .ok (.bipush (-2), 2) := by decide +kernel
theorem dX11_shelf_45 : decode cX11_shelf 45 = .ok (.ireturn, 1) := by decide +kernel
theorem dX11_shelf_46 : decode cX11_shelf 46 = .ok (.aload 5, 2) := by decide +kernel
theorem dX11_shelf_48 : decode cX11_shelf 48 = .ok (.getfield 241, 3) := by decide +kernel
theorem dX11_shelf_51 : decode cX11_shelf 51 = .ok (.iload_n 2, 1) := by decide +kernel
theorem dX11_shelf_52 : decode cX11_shelf 52 = .ok (.aaload, 1) := by decide +kernel
theorem dX11_shelf_53 : decode cX11_shelf 53 = .ok (.iload_n 3, 1) := by decide +kernel
theorem dX11_shelf_54 : decode cX11_shelf 54 = .ok (.iaload, 1) := by decide +kernel
theorem dX11_shelf_55 : decode cX11_shelf 55 = .ok (.istore 6, 2) := by decide +kernel
theorem dX11_shelf_57 : decode cX11_shelf 57 = .ok (.aload 5, 2) := by decide +kernel
theorem dX11_shelf_59 : decode cX11_shelf 59 = .ok (.getfield 241, 3) := by decide +kernel
theorem dX11_shelf_62 : decode cX11_shelf 62 = .ok (.iload_n 2, 1) := by decide +kernel
theorem dX11_shelf_63 : decode cX11_shelf 63 = .ok (.aaload, 1) := by decide +kernel
theorem dX11_shelf_64 : decode cX11_shelf 64 = .ok (.iload_n 3, 1) := by decide +kernel
theorem dX11_shelf_65 : decode cX11_shelf 65 = .ok (.iload 4, 2) := by decide +kernel
theorem dX11_shelf_67 : decode cX11_shelf 67 = .ok (.iastore, 1) := by decide +kernel
theorem dX11_shelf_68 : decode cX11_shelf 68 = .ok (.iload 6, 2) := by decide +kernel
theorem dX11_shelf_70 : decode cX11_shelf 70 = .ok (.ireturn, 1) := by decide +kernel
theorem dX11_reads_0 : decode cX11_reads 0 = .ok (.aload_n 0, 1) := by decide +kernel
theorem dX11_reads_1 : decode cX11_reads 1 = .ok (.iload_n 1, 1) := by decide +kernel
theorem dX11_reads_2 : decode cX11_reads 2 = .ok (.invokevirtual 210, 3) := by decide +kernel
theorem dX11_reads_5 : decode cX11_reads 5 = .ok (.astore_n 2, 1) := by decide +kernel
theorem dX11_reads_6 : decode cX11_reads 6 = .ok (.aload_n 2, 1) := by decide +kernel
theorem dX11_reads_7 : decode cX11_reads 7 = .ok (.ifnonnull 7, 3) := by decide +kernel
theorem dX11_reads_10 : decode cX11_reads 10 = .ok (.iconst (-1), 1) := by decide +kernel
theorem dX11_reads_11 : decode cX11_reads 11 = .ok (.goto 8, 3) := by decide +kernel
theorem dX11_reads_14 : decode cX11_reads 14 = .ok (.aload_n 0, 1) := by decide +kernel
theorem dX11_reads_15 : decode cX11_reads 15 = .ok (.aload_n 2, 1) := by decide +kernel
theorem dX11_reads_16 : decode cX11_reads 16 = .ok (.invokevirtual 244, 3) := by decide +kernel
theorem dX11_reads_19 : decode cX11_reads 19 = .ok (.ireturn, 1) := by decide +kernel
theorem dX11_school_0 : decode cX11_school 0 = .ok (.aload_n 0, 1) := by decide +kernel
theorem dX11_school_1 : decode cX11_school 1 = .ok (.iload_n 1, 1) := by decide +kernel
theorem dX11_school_2 : decode cX11_school 2 = .ok (.invokevirtual 197, 3) := by decide +kernel
theorem dX11_school_5 : decode cX11_school 5 = .ok (.astore_n 3, 1) := by decide +kernel
theorem dX11_school_6 : decode cX11_school 6 = .ok (.aload_n 3, 1) := by decide +kernel
theorem dX11_school_7 : decode cX11_school 7 = .ok (.ifnonnull 5, 3) := by decide +kernel
theorem dX11_school_10 : decode cX11_school 10 = .ok (.iconst (-1), 1) := by decide +kernel
theorem dX11_school_11 : decode cX11_school 11 = .ok (.ireturn, 1) := by decide +kernel
theorem dX11_school_12 : decode cX11_school 12 = .ok (.iconst 0, 1) := by decide +kernel
theorem dX11_school_13 : decode cX11_school 13 = .ok (.istore 4, 2) := by decide +kernel
theorem dX11_school_15 : decode cX11_school 15 = .ok (.iconst 0, 1) := by decide +kernel
theorem dX11_school_16 : decode cX11_school 16 = .ok (.istore 5, 2) := by decide +kernel
theorem dX11_school_18 : decode cX11_school 18 = .ok (.iconst 0, 1) := by decide +kernel
theorem dX11_school_19 : decode cX11_school 19 = .ok (.istore 6, 2) := by decide +kernel
theorem dX11_school_21 : decode cX11_school 21 = .ok (.iconst 0, 1) := by decide +kernel
theorem dX11_school_22 : decode cX11_school 22 = .ok (.istore 7, 2) := by decide +kernel
theorem dX11_school_24 : decode cX11_school 24 = .ok (.iload 7, 2) := by decide +kernel
theorem dX11_school_26 : decode cX11_school 26 = .ok (.aload_n 0, 1) := by decide +kernel
theorem dX11_school_27 : decode cX11_school 27 = .ok (.getfield 61, 3) := by decide +kernel
theorem dX11_school_30 : decode cX11_school 30 = .ok (.if_icmp .ge 59, 3) := by decide +kernel
theorem dX11_school_33 : decode cX11_school 33 = .ok (.aload_n 0, 1) := by decide +kernel
theorem dX11_school_34 : decode cX11_school 34 = .ok (.getfield 56, 3) := by decide +kernel
theorem dX11_school_37 : decode cX11_school 37 = .ok (.iload 7, 2) := by decide +kernel
theorem dX11_school_39 : decode cX11_school 39 = .ok (.aaload, 1) := by decide +kernel
theorem dX11_school_40 : decode cX11_school 40 = .ok (.astore 8, 2) := by decide +kernel
theorem dX11_school_42 : decode cX11_school 42 = .ok (.aload 8, 2) := by decide +kernel
theorem dX11_school_44 : decode cX11_school 44 = .ok (.getfield 204, 3) := by decide +kernel
theorem dX11_school_47 : decode cX11_school 47 = .ok (.iload_n 1, 1) := by decide +kernel
theorem dX11_school_48 : decode cX11_school 48 = .ok (.if_icmp .ne 35, 3) := by decide +kernel
theorem dX11_school_51 : decode cX11_school 51 = .ok (.iinc 4 1, 3) := by decide +kernel
theorem dX11_school_54 : decode cX11_school 54 = .ok (.iload 6, 2) := by decide +kernel
theorem dX11_school_56 : decode cX11_school 56 = .ok (.aload 8, 2) := by decide +kernel
theorem dX11_school_58 : decode cX11_school 58 = .ok (.invokevirtual 220, 3) := by decide +kernel
theorem dX11_school_61 : decode cX11_school 61 = .ok (.ior, 1) := by decide +kernel
theorem dX11_school_62 : decode cX11_school 62 = .ok (.istore 6, 2) := by decide +kernel
theorem dX11_school_64 : decode cX11_school 64 = .ok (.iload 5, 2) := by decide +kernel
theorem dX11_school_66 : decode cX11_school 66 = .ok (.aload_n 0, 1) := by decide +kernel
theorem dX11_school_67 : decode cX11_school 67 = .ok (.aload 8, 2) := by decide +kernel
theorem dX11_school_69 : decode cX11_school 69 = .ok (.invokevirtual 244, 3) := by decide +kernel
theorem dX11_school_72 : decode cX11_school 72 = .ok (.ifCond .ne 7, 3) := by decide +kernel
theorem dX11_school_75 : decode cX11_school 75 = .ok (.iconst 1, 1) := by decide +kernel
theorem dX11_school_76 : decode cX11_school 76 = .ok (.goto 4, 3) := by decide +kernel
theorem dX11_school_79 : decode cX11_school 79 = .ok (.iconst 0, 1) := by decide +kernel
theorem dX11_school_80 : decode cX11_school 80 = .ok (.iadd, 1) := by decide +kernel
theorem dX11_school_81 : decode cX11_school 81 = .ok (.istore 5, 2) := by decide +kernel
theorem dX11_school_83 : decode cX11_school 83 = .ok (.iinc 7 1, 3) := by decide +kernel
theorem dX11_school_86 : decode cX11_school 86 = .ok (.goto (-62), 3) := by decide +kernel
theorem dX11_school_89 : decode cX11_school 89 = .ok (.iload_n 2, 1) := by decide +kernel
theorem dX11_school_90 : decode cX11_school 90 = .ok (.tableswitch 59 0 3 #[30, 33, 40, 43], 30) := by decide +kernel
theorem dX11_school_120 : decode cX11_school 120 = .ok (.iload 5, 2) := by decide +kernel
theorem dX11_school_122 : decode cX11_school 122 = .ok (.ireturn, 1) := by decide +kernel
theorem dX11_school_123 : decode cX11_school 123 = .ok (.aload_n 3, 1) := by decide +kernel
theorem dX11_school_124 : decode cX11_school 124 = .ok (.iload 6, 2) := by decide +kernel
theorem dX11_school_126 : decode cX11_school 126 = .ok (.invokevirtual 248, 3) := by decide +kernel
theorem dX11_school_129 : decode cX11_school 129 = .ok (.ireturn, 1) := by decide +kernel
theorem dX11_school_130 : decode cX11_school 130 = .ok (.iload 4, 2) := by decide +kernel
theorem dX11_school_132 : decode cX11_school 132 = .ok (.ireturn, 1) := by decide +kernel
theorem dX11_school_133 : decode cX11_school 133 = .ok (.aload_n 3, 1) := by decide +kernel
theorem dX11_school_134 : decode cX11_school 134 = .ok (.bipush 31, 2) := by decide +kernel
theorem dX11_school_136 : decode cX11_school 136 = .ok (.invokevirtual 251, 3) := by decide +kernel
theorem dX11_school_139 : decode cX11_school 139 = .ok (.aload_n 3, 1) := by decide +kernel
theorem dX11_school_140 : decode cX11_school 140 = .ok (.iload 6, 2) := by decide +kernel
theorem dX11_school_142 : decode cX11_school 142 = .ok (.invokevirtual 251, 3) := by decide +kernel
theorem dX11_school_145 : decode cX11_school 145 = .ok (.iconst (-1), 1) := by decide +kernel
theorem dX11_school_146 : decode cX11_school 146 = .ok (.ixor, 1) := by decide +kernel
theorem dX11_school_147 : decode cX11_school 147 = .ok (.iand, 1) := by decide +kernel
theorem dX11_school_148 : decode cX11_school 148 = .ok (.ireturn, 1) := by decide +kernel
theorem dX11_school_149 : decode cX11_school 149 = .ok (.bipush (-2), 2) := by decide +kernel
theorem dX11_school_151 : decode cX11_school 151 = .ok (.ireturn, 1) := by decide +kernel
theorem dX11_fund_0 : decode cX11_fund 0 = .ok (.iload_n 1, 1) := by decide +kernel
theorem dX11_fund_1 : decode cX11_fund 1 = .ok (.iconst 0, 1) := by decide +kernel
theorem dX11_fund_2 : decode cX11_fund 2 = .ok (.sipush 1000, 3) := by decide +kernel
theorem dX11_fund_5 : decode cX11_fund 5 = .ok (.invokestatic 92, 3) := by decide +kernel
theorem dX11_fund_8 : decode cX11_fund 8 = .ok (.ifCond .eq 12, 3) := by decide +kernel
theorem dX11_fund_11 : decode cX11_fund 11 = .ok (.iload_n 2, 1) := by decide +kernel
theorem dX11_fund_12 : decode cX11_fund 12 = .ok (.iconst 0, 1) := by decide +kernel
theorem dX11_fund_13 : decode cX11_fund 13 = .ok (.iconst 3, 1) := by decide +kernel
theorem dX11_fund_14 : decode cX11_fund 14 = .ok (.invokestatic 92, 3) := by decide +kernel
theorem dX11_fund_17 : decode cX11_fund 17 = .ok (.ifCond .ne 6, 3) := by decide +kernel
theorem dX11_fund_20 : decode cX11_fund 20 = .ok (.bipush (-2), 2) := by decide +kernel
theorem dX11_fund_22 : decode cX11_fund 22 = .ok (.ireturn, 1) := by decide +kernel
theorem dX11_fund_23 : decode cX11_fund 23 = .ok (.aload_n 0, 1) := by decide +kernel
theorem dX11_fund_24 : decode cX11_fund 24 = .ok (.getfield 75, 3) := by decide +kernel
theorem dX11_fund_27 : decode cX11_fund 27 = .ok (.invokevirtual 254, 3) := by decide +kernel
theorem dX11_fund_30 : decode cX11_fund 30 = .ok (.iconst 0, 1) := by decide +kernel
theorem dX11_fund_31 : decode cX11_fund 31 = .ok (.istore_n 3, 1) := by decide +kernel
theorem dX11_fund_32 : decode cX11_fund 32 = .ok (.iload_n 3, 1) := by decide +kernel
theorem dX11_fund_33 : decode cX11_fund 33 = .ok (.iconst 5, 1) := by decide +kernel
theorem dX11_fund_34 : decode cX11_fund 34 = .ok (.if_icmp .ge 43, 3) := by decide +kernel
theorem dX11_fund_37 : decode cX11_fund 37 = .ok (.aload_n 0, 1) := by decide +kernel
theorem dX11_fund_38 : decode cX11_fund 38 = .ok (.iload_n 3, 1) := by decide +kernel
theorem dX11_fund_39 : decode cX11_fund 39 = .ok (.invokevirtual 257, 3) := by decide +kernel
theorem dX11_fund_42 : decode cX11_fund 42 = .ok (.ifCond .eq 29, 3) := by decide +kernel
theorem dX11_fund_45 : decode cX11_fund 45 = .ok (.aload_n 0, 1) := by decide +kernel
theorem dX11_fund_46 : decode cX11_fund 46 = .ok (.getfield 50, 3) := by decide +kernel
theorem dX11_fund_49 : decode cX11_fund 49 = .ok (.aload_n 0, 1) := by decide +kernel
theorem dX11_fund_50 : decode cX11_fund 50 = .ok (.getfield 11, 3) := by decide +kernel
theorem dX11_fund_53 : decode cX11_fund 53 = .ok (.iload_n 3, 1) := by decide +kernel
theorem dX11_fund_54 : decode cX11_fund 54 = .ok (.aaload, 1) := by decide +kernel
theorem dX11_fund_55 : decode cX11_fund 55 = .ok (.invokevirtual 171, 3) := by decide +kernel
theorem dX11_fund_58 : decode cX11_fund 58 = .ok (.aload_n 0, 1) := by decide +kernel
theorem dX11_fund_59 : decode cX11_fund 59 = .ok (.invokevirtual 260, 3) := by decide +kernel
theorem dX11_fund_62 : decode cX11_fund 62 = .ok (.aload_n 0, 1) := by decide +kernel
theorem dX11_fund_63 : decode cX11_fund 63 = .ok (.getfield 75, 3) := by decide +kernel
theorem dX11_fund_66 : decode cX11_fund 66 = .ok (.iload_n 3, 1) := by decide +kernel
theorem dX11_fund_67 : decode cX11_fund 67 = .ok (.iload_n 1, 1) := by decide +kernel
theorem dX11_fund_68 : decode cX11_fund 68 = .ok (.invokevirtual 263, 3) := by decide +kernel
theorem dX11_fund_71 : decode cX11_fund 71 = .ok (.iinc 3 1, 3) := by decide +kernel
theorem dX11_fund_74 : decode cX11_fund 74 = .ok (.goto (-42), 3) := by decide +kernel
theorem dX11_fund_77 : decode cX11_fund 77 = .ok (.iload_n 2, 1) := by decide +kernel
theorem dX11_fund_78 : decode cX11_fund 78 = .ok (.tableswitch 50 0 2 #[26, 34, 42], 26) := by decide +kernel
theorem dX11_fund_104 : decode cX11_fund 104 = .ok (.aload_n 0, 1) := by decide +kernel
theorem dX11_fund_105 : decode cX11_fund 105 = .ok (.getfield 75, 3) := by decide +kernel
theorem dX11_fund_108 : decode cX11_fund 108 = .ok (.getfield 267, 3) := by decide +kernel
theorem dX11_fund_111 : decode cX11_fund 111 = .ok (.ireturn, 1) := by decide +kernel
theorem dX11_fund_112 : decode cX11_fund 112 = .ok (.aload_n 0, 1) := by decide +kernel
theorem dX11_fund_113 : decode cX11_fund 113 = .ok (.getfield 75, 3) := by decide +kernel
theorem dX11_fund_116 : decode cX11_fund 116 = .ok (.getfield 270, 3) := by decide +kernel
theorem dX11_fund_119 : decode cX11_fund 119 = .ok (.ireturn, 1) := by decide +kernel
theorem dX11_fund_120 : decode cX11_fund 120 = .ok (.aload_n 0, 1) := by decide +kernel
theorem dX11_fund_121 : decode cX11_fund 121 = .ok (.getfield 75, 3) := by decide +kernel
theorem dX11_fund_124 : decode cX11_fund 124 = .ok (.getfield 273, 3) := by decide +kernel
theorem dX11_fund_127 : decode cX11_fund 127 = .ok (.ireturn, 1) := by decide +kernel
theorem dX11_fund_128 : decode cX11_fund 128 = .ok (.aload_n 0, 1) := by decide +kernel
theorem dX11_fund_129 : decode cX11_fund 129 = .ok (.getfield 75, 3) := by decide +kernel
theorem dX11_fund_132 : decode cX11_fund 132 = .ok (.getfield 276, 3) := by decide +kernel
theorem dX11_fund_135 : decode cX11_fund 135 = .ok (.ireturn, 1) := by decide +kernel
theorem dX11_sign_0 : decode cX11_sign 0 = .ok (.iload_n 1, 1) := by decide +kernel
theorem dX11_sign_1 : decode cX11_sign 1 = .ok (.bipush 33, 2) := by decide +kernel
theorem dX11_sign_3 : decode cX11_sign 3 = .ok (.bipush 126, 2) := by decide +kernel
theorem dX11_sign_5 : decode cX11_sign 5 = .ok (.invokestatic 92, 3) := by decide +kernel
theorem dX11_sign_8 : decode cX11_sign 8 = .ok (.ifCond .ne 6, 3) := by decide +kernel
theorem dX11_sign_11 : decode cX11_sign 11 = .ok (.bipush (-2), 2) := by decide +kernel
theorem dX11_sign_13 : decode cX11_sign 13 = .ok (.ireturn, 1) := by decide +kernel
theorem dX11_sign_14 : decode cX11_sign 14 = .ok (.aload_n 0, 1) := by decide +kernel
theorem dX11_sign_15 : decode cX11_sign 15 = .ok (.getfield 28, 3) := by decide +kernel
theorem dX11_sign_18 : decode cX11_sign 18 = .ok (.invokevirtual 100, 3) := by decide +kernel
theorem dX11_sign_21 : decode cX11_sign 21 = .ok (.ifCond .eq 8, 3) := by decide +kernel
theorem dX11_sign_24 : decode cX11_sign 24 = .ok (.bipush (-4), 2) := by decide +kernel
theorem dX11_sign_26 : decode cX11_sign 26 = .ok (.goto 11, 3) := by decide +kernel
theorem dX11_sign_29 : decode cX11_sign 29 = .ok (.aload_n 0, 1) := by decide +kernel
theorem dX11_sign_30 : decode cX11_sign 30 = .ok (.getfield 28, 3) := by decide +kernel
theorem dX11_sign_33 : decode cX11_sign 33 = .ok (.iload_n 1, 1) := by decide +kernel
theorem dX11_sign_34 : decode cX11_sign 34 = .ok (.invokevirtual 104, 3) := by decide +kernel
theorem dX11_sign_37 : decode cX11_sign 37 = .ok (.ireturn, 1) := by decide +kernel
theorem dX11_fault_0 : decode cX11_fault 0 = .ok (.aload_n 0, 1) := by decide +kernel
theorem dX11_fault_1 : decode cX11_fault 1 = .ok (.getfield 28, 3) := by decide +kernel
theorem dX11_fault_4 : decode cX11_fault 4 = .ok (.invokestatic 279, 3) := by decide +kernel
theorem dX11_fault_7 : decode cX11_fault 7 = .ok (.ireturn, 1) := by decide +kernel
theorem dX11_board_0 : decode cX11_board 0 = .ok (.aload_n 0, 1) := by decide +kernel
theorem dX11_board_1 : decode cX11_board 1 = .ok (.iload_n 1, 1) := by decide +kernel
theorem dX11_board_2 : decode cX11_board 2 = .ok (.invokevirtual 197, 3) := by decide +kernel
theorem dX11_board_5 : decode cX11_board 5 = .ok (.astore_n 2, 1) := by decide +kernel
theorem dX11_board_6 : decode cX11_board 6 = .ok (.aload_n 2, 1) := by decide +kernel
theorem dX11_board_7 : decode cX11_board 7 = .ok (.ifnonnull 5, 3) := by decide +kernel
theorem dX11_board_10 : decode cX11_board 10 = .ok (.iconst (-1), 1) := by decide +kernel
theorem dX11_board_11 : decode cX11_board 11 = .ok (.ireturn, 1) := by decide +kernel
theorem dX11_board_12 : decode cX11_board 12 = .ok (.aload_n 0, 1) := by decide +kernel
theorem dX11_board_13 : decode cX11_board 13 = .ok (.getfield 28, 3) := by decide +kernel
theorem dX11_board_16 : decode cX11_board 16 = .ok (.invokestatic 279, 3) := by decide +kernel
theorem dX11_board_19 : decode cX11_board 19 = .ok (.bipush (-6), 2) := by decide +kernel
theorem dX11_board_21 : decode cX11_board 21 = .ok (.if_icmp .eq 6, 3) := by decide +kernel
theorem dX11_board_24 : decode cX11_board 24 = .ok (.bipush (-5), 2) := by decide +kernel
theorem dX11_board_26 : decode cX11_board 26 = .ok (.ireturn, 1) := by decide +kernel
theorem dX11_board_27 : decode cX11_board 27 = .ok (.aload_n 2, 1) := by decide +kernel
theorem dX11_board_28 : decode cX11_board 28 = .ok (.getfield 284, 3) := by decide +kernel
theorem dX11_board_31 : decode cX11_board 31 = .ok (.getfield 119, 3) := by decide +kernel
theorem dX11_board_34 : decode cX11_board 34 = .ok (.ifCond .ne 7, 3) := by decide +kernel
theorem dX11_board_37 : decode cX11_board 37 = .ok (.iconst 1, 1) := by decide +kernel
theorem dX11_board_38 : decode cX11_board 38 = .ok (.goto 4, 3) := by decide +kernel
theorem dX11_board_41 : decode cX11_board 41 = .ok (.iconst 0, 1) := by decide +kernel
theorem dX11_board_42 : decode cX11_board 42 = .ok (.istore_n 3, 1) := by decide +kernel
theorem dX11_board_43 : decode cX11_board 43 = .ok (.aload_n 2, 1) := by decide +kernel
theorem dX11_board_44 : decode cX11_board 44 = .ok (.getfield 284, 3) := by decide +kernel
theorem dX11_board_47 : decode cX11_board 47 = .ok (.invokevirtual 108, 3) := by decide +kernel
theorem dX11_board_50 : decode cX11_board 50 = .ok (.pop, 1) := by decide +kernel
theorem dX11_board_51 : decode cX11_board 51 = .ok (.iconst 0, 1) := by decide +kernel
theorem dX11_board_52 : decode cX11_board 52 = .ok (.istore 4, 2) := by decide +kernel
theorem dX11_board_54 : decode cX11_board 54 = .ok (.iload 4, 2) := by decide +kernel
theorem dX11_board_56 : decode cX11_board 56 = .ok (.aload_n 0, 1) := by decide +kernel
theorem dX11_board_57 : decode cX11_board 57 = .ok (.getfield 28, 3) := by decide +kernel
theorem dX11_board_60 : decode cX11_board 60 = .ok (.getfield 119, 3) := by decide +kernel
theorem dX11_board_63 : decode cX11_board 63 = .ok (.if_icmp .ge 26, 3) := by decide +kernel
theorem dX11_board_66 : decode cX11_board 66 = .ok (.aload_n 2, 1) := by decide +kernel
theorem dX11_board_67 : decode cX11_board 67 = .ok (.getfield 284, 3) := by decide +kernel
theorem dX11_board_70 : decode cX11_board 70 = .ok (.aload_n 0, 1) := by decide +kernel
theorem dX11_board_71 : decode cX11_board 71 = .ok (.getfield 28, 3) := by decide +kernel
theorem dX11_board_74 : decode cX11_board 74 = .ok (.iload 4, 2) := by decide +kernel
theorem dX11_board_76 : decode cX11_board 76 = .ok (.invokevirtual 136, 3) := by decide +kernel
theorem dX11_board_79 : decode cX11_board 79 = .ok (.invokevirtual 104, 3) := by decide +kernel
theorem dX11_board_82 : decode cX11_board 82 = .ok (.pop, 1) := by decide +kernel
theorem dX11_board_83 : decode cX11_board 83 = .ok (.iinc 4 1, 3) := by decide +kernel
theorem dX11_board_86 : decode cX11_board 86 = .ok (.goto (-32), 3) := by decide +kernel
theorem dX11_board_89 : decode cX11_board 89 = .ok (.aload_n 0, 1) := by decide +kernel
theorem dX11_board_90 : decode cX11_board 90 = .ok (.getfield 28, 3) := by decide +kernel
theorem dX11_board_93 : decode cX11_board 93 = .ok (.invokevirtual 108, 3) := by decide +kernel
theorem dX11_board_96 : decode cX11_board 96 = .ok (.pop, 1) := by decide +kernel
theorem dX11_board_97 : decode cX11_board 97 = .ok (.iload_n 3, 1) := by decide +kernel
theorem dX11_board_98 : decode cX11_board 98 = .ok (.ireturn, 1) := by decide +kernel
theorem dX11_voters_0 : decode cX11_voters 0 = .ok (.aload_n 0, 1) := by decide +kernel
theorem dX11_voters_1 : decode cX11_voters 1 = .ok (.iload_n 1, 1) := by decide +kernel
theorem dX11_voters_2 : decode cX11_voters 2 = .ok (.invokevirtual 197, 3) := by decide +kernel
theorem dX11_voters_5 : decode cX11_voters 5 = .ok (.ifnonnull 7, 3) := by decide +kernel
theorem dX11_voters_8 : decode cX11_voters 8 = .ok (.iconst (-1), 1) := by decide +kernel
theorem dX11_voters_9 : decode cX11_voters 9 = .ok (.goto 8, 3) := by decide +kernel
theorem dX11_voters_12 : decode cX11_voters 12 = .ok (.aload_n 0, 1) := by decide +kernel
theorem dX11_voters_13 : decode cX11_voters 13 = .ok (.iload_n 1, 1) := by decide +kernel
theorem dX11_voters_14 : decode cX11_voters 14 = .ok (.invokevirtual 287, 3) := by decide +kernel
theorem dX11_voters_17 : decode cX11_voters 17 = .ok (.ireturn, 1) := by decide +kernel
theorem dX11_choice_0 : decode cX11_choice 0 = .ok (.aload_n 0, 1) := by decide +kernel
theorem dX11_choice_1 : decode cX11_choice 1 = .ok (.iload_n 1, 1) := by decide +kernel
theorem dX11_choice_2 : decode cX11_choice 2 = .ok (.invokevirtual 197, 3) := by decide +kernel
theorem dX11_choice_5 : decode cX11_choice 5 = .ok (.ifnonnull 5, 3) := by decide +kernel
theorem dX11_choice_8 : decode cX11_choice 8 = .ok (.iconst (-1), 1) := by decide +kernel
theorem dX11_choice_9 : decode cX11_choice 9 = .ok (.ireturn, 1) := by decide +kernel
theorem dX11_choice_10 : decode cX11_choice 10 = .ok (.iload_n 2, 1) := by decide +kernel
theorem dX11_choice_11 : decode cX11_choice 11 = .ok (.ifCond .eq 11, 3) := by decide +kernel
theorem dX11_choice_14 : decode cX11_choice 14 = .ok (.aload_n 0, 1) := by decide +kernel
theorem dX11_choice_15 : decode cX11_choice 15 = .ok (.iload_n 1, 1) := by decide +kernel
theorem dX11_choice_16 : decode cX11_choice 16 = .ok (.invokevirtual 290, 3) := by decide +kernel
theorem dX11_choice_19 : decode cX11_choice 19 = .ok (.goto 8, 3) := by decide +kernel
theorem dX11_choice_22 : decode cX11_choice 22 = .ok (.aload_n 0, 1) := by decide +kernel
theorem dX11_choice_23 : decode cX11_choice 23 = .ok (.iload_n 1, 1) := by decide +kernel
theorem dX11_choice_24 : decode cX11_choice 24 = .ok (.invokevirtual 287, 3) := by decide +kernel
theorem dX11_choice_27 : decode cX11_choice 27 = .ok (.istore_n 3, 1) := by decide +kernel
theorem dX11_choice_28 : decode cX11_choice 28 = .ok (.bipush (-6), 2) := by decide +kernel
theorem dX11_choice_30 : decode cX11_choice 30 = .ok (.istore 4, 2) := by decide +kernel
theorem dX11_choice_32 : decode cX11_choice 32 = .ok (.iconst 0, 1) := by decide +kernel
theorem dX11_choice_33 : decode cX11_choice 33 = .ok (.istore 5, 2) := by decide +kernel
theorem dX11_choice_35 : decode cX11_choice 35 = .ok (.iconst 0, 1) := by decide +kernel
theorem dX11_choice_36 : decode cX11_choice 36 = .ok (.istore 6, 2) := by decide +kernel
theorem dX11_choice_38 : decode cX11_choice 38 = .ok (.iload 6, 2) := by decide +kernel
theorem dX11_choice_40 : decode cX11_choice 40 = .ok (.iconst 5, 1) := by decide +kernel
theorem dX11_choice_41 : decode cX11_choice 41 = .ok (.if_icmp .ge 33, 3) := by decide +kernel
theorem dX11_choice_44 : decode cX11_choice 44 = .ok (.aload_n 0, 1) := by decide +kernel
theorem dX11_choice_45 : decode cX11_choice 45 = .ok (.iload 6, 2) := by decide +kernel
theorem dX11_choice_47 : decode cX11_choice 47 = .ok (.iload_n 3, 1) := by decide +kernel
theorem dX11_choice_48 : decode cX11_choice 48 = .ok (.invokevirtual 293, 3) := by decide +kernel
theorem dX11_choice_51 : decode cX11_choice 51 = .ok (.istore 7, 2) := by decide +kernel
theorem dX11_choice_53 : decode cX11_choice 53 = .ok (.iload 7, 2) := by decide +kernel
theorem dX11_choice_55 : decode cX11_choice 55 = .ok (.iload 5, 2) := by decide +kernel
theorem dX11_choice_57 : decode cX11_choice 57 = .ok (.if_icmp .le 11, 3) := by decide +kernel
theorem dX11_choice_60 : decode cX11_choice 60 = .ok (.iload 7, 2) := by decide +kernel
theorem dX11_choice_62 : decode cX11_choice 62 = .ok (.istore 5, 2) := by decide +kernel
theorem dX11_choice_64 : decode cX11_choice 64 = .ok (.iload 6, 2) := by decide +kernel
theorem dX11_choice_66 : decode cX11_choice 66 = .ok (.istore 4, 2) := by decide +kernel
theorem dX11_choice_68 : decode cX11_choice 68 = .ok (.iinc 6 1, 3) := by decide +kernel
theorem dX11_choice_71 : decode cX11_choice 71 = .ok (.goto (-33), 3) := by decide +kernel
theorem dX11_choice_74 : decode cX11_choice 74 = .ok (.iload 4, 2) := by decide +kernel
theorem dX11_choice_76 : decode cX11_choice 76 = .ok (.ireturn, 1) := by decide +kernel
theorem dX11_part_0 : decode cX11_part 0 = .ok (.iload_n 1, 1) := by decide +kernel
theorem dX11_part_1 : decode cX11_part 1 = .ok (.iconst 0, 1) := by decide +kernel
theorem dX11_part_2 : decode cX11_part 2 = .ok (.bipush 25, 2) := by decide +kernel
theorem dX11_part_4 : decode cX11_part 4 = .ok (.invokestatic 92, 3) := by decide +kernel
theorem dX11_part_7 : decode cX11_part 7 = .ok (.ifCond .ne 5, 3) := by decide +kernel
theorem dX11_part_10 : decode cX11_part 10 = .ok (.iconst (-1), 1) := by decide +kernel
theorem dX11_part_11 : decode cX11_part 11 = .ok (.ireturn, 1) := by decide +kernel
theorem dX11_part_12 : decode cX11_part 12 = .ok (.iload_n 2, 1) := by decide +kernel
theorem dX11_part_13 : decode cX11_part 13 = .ok (.iconst (-1), 1) := by decide +kernel
theorem dX11_part_14 : decode cX11_part 14 = .ok (.bipush 6, 2) := by decide +kernel
theorem dX11_part_16 : decode cX11_part 16 = .ok (.invokestatic 92, 3) := by decide +kernel
theorem dX11_part_19 : decode cX11_part 19 = .ok (.ifCond .ne 6, 3) := by decide +kernel
theorem dX11_part_22 : decode cX11_part 22 = .ok (.bipush (-2), 2) := by decide +kernel
theorem dX11_part_24 : decode cX11_part 24 = .ok (.ireturn, 1) := by decide +kernel
theorem dX11_part_25 : decode cX11_part 25 = .ok (.aload_n 0, 1) := by decide +kernel
theorem dX11_part_26 : decode cX11_part 26 = .ok (.getfield 84, 3) := by decide +kernel
theorem dX11_part_29 : decode cX11_part 29 = .ok (.getfield 296, 3) := by decide +kernel
theorem dX11_part_32 : decode cX11_part 32 = .ok (.iload_n 1, 1) := by decide +kernel
theorem dX11_part_33 : decode cX11_part 33 = .ok (.iaload, 1) := by decide +kernel
theorem dX11_part_34 : decode cX11_part 34 = .ok (.istore_n 3, 1) := by decide +kernel
theorem dX11_part_35 : decode cX11_part 35 = .ok (.aload_n 0, 1) := by decide +kernel
theorem dX11_part_36 : decode cX11_part 36 = .ok (.getfield 84, 3) := by decide +kernel
theorem dX11_part_39 : decode cX11_part 39 = .ok (.getfield 296, 3) := by decide +kernel
theorem dX11_part_42 : decode cX11_part 42 = .ok (.iload_n 1, 1) := by decide +kernel
theorem dX11_part_43 : decode cX11_part 43 = .ok (.iload_n 2, 1) := by decide +kernel
theorem dX11_part_44 : decode cX11_part 44 = .ok (.iastore, 1) := by decide +kernel
theorem dX11_part_45 : decode cX11_part 45 = .ok (.iload_n 3, 1) := by decide +kernel
theorem dX11_part_46 : decode cX11_part 46 = .ok (.ifCond .ge 8, 3) := by decide +kernel
theorem dX11_part_49 : decode cX11_part 49 = .ok (.bipush (-6), 2) := by decide +kernel
theorem dX11_part_51 : decode cX11_part 51 = .ok (.goto 4, 3) := by decide +kernel
theorem dX11_part_54 : decode cX11_part 54 = .ok (.iload_n 3, 1) := by decide +kernel
theorem dX11_part_55 : decode cX11_part 55 = .ok (.ireturn, 1) := by decide +kernel
theorem dX11_mix_0 : decode cX11_mix 0 = .ok (.aload_n 0, 1) := by decide +kernel
theorem dX11_mix_1 : decode cX11_mix 1 = .ok (.getfield 84, 3) := by decide +kernel
theorem dX11_mix_4 : decode cX11_mix 4 = .ok (.iload_n 1, 1) := by decide +kernel
theorem dX11_mix_5 : decode cX11_mix 5 = .ok (.invokevirtual 299, 3) := by decide +kernel
theorem dX11_mix_8 : decode cX11_mix 8 = .ok (.ifCond .ne 6, 3) := by decide +kernel
theorem dX11_mix_11 : decode cX11_mix 11 = .ok (.bipush (-2), 2) := by decide +kernel
theorem dX11_mix_13 : decode cX11_mix 13 = .ok (.ireturn, 1) := by decide +kernel
theorem dX11_mix_14 : decode cX11_mix 14 = .ok (.aload_n 0, 1) := by decide +kernel
theorem dX11_mix_15 : decode cX11_mix 15 = .ok (.getfield 84, 3) := by decide +kernel
theorem dX11_mix_18 : decode cX11_mix 18 = .ok (.invokevirtual 302, 3) := by decide +kernel
theorem dX11_mix_21 : decode cX11_mix 21 = .ok (.ifCond .eq 7, 3) := by decide +kernel
theorem dX11_mix_24 : decode cX11_mix 24 = .ok (.iconst 1, 1) := by decide +kernel
theorem dX11_mix_25 : decode cX11_mix 25 = .ok (.goto 4, 3) := by decide +kernel
theorem dX11_mix_28 : decode cX11_mix 28 = .ok (.iconst 0, 1) := by decide +kernel
theorem dX11_mix_29 : decode cX11_mix 29 = .ok (.ireturn, 1) := by decide +kernel
theorem dX11_anew_0 : decode cX11_anew 0 = .ok (.aload_n 0, 1) := by decide +kernel
theorem dX11_anew_1 : decode cX11_anew 1 = .ok (.getfield 84, 3) := by decide +kernel
theorem dX11_anew_4 : decode cX11_anew 4 = .ok (.iload_n 1, 1) := by decide +kernel
theorem dX11_anew_5 : decode cX11_anew 5 = .ok (.invokevirtual 299, 3) := by decide +kernel
theorem dX11_anew_8 : decode cX11_anew 8 = .ok (.ifCond .ne 6, 3) := by decide +kernel
theorem dX11_anew_11 : decode cX11_anew 11 = .ok (.bipush (-2), 2) := by decide +kernel
theorem dX11_anew_13 : decode cX11_anew 13 = .ok (.ireturn, 1) := by decide +kernel
theorem dX11_anew_14 : decode cX11_anew 14 = .ok (.aload_n 0, 1) := by decide +kernel
theorem dX11_anew_15 : decode cX11_anew 15 = .ok (.getfield 84, 3) := by decide +kernel
theorem dX11_anew_18 : decode cX11_anew 18 = .ok (.invokevirtual 302, 3) := by decide +kernel
theorem dX11_anew_21 : decode cX11_anew 21 = .ok (.ifCond .ne 6, 3) := by decide +kernel
theorem dX11_anew_24 : decode cX11_anew 24 = .ok (.bipush (-5), 2) := by decide +kernel
theorem dX11_anew_26 : decode cX11_anew 26 = .ok (.ireturn, 1) := by decide +kernel
theorem dX11_anew_27 : decode cX11_anew 27 = .ok (.aload_n 0, 1) := by decide +kernel
theorem dX11_anew_28 : decode cX11_anew 28 = .ok (.invokevirtual 305, 3) := by decide +kernel
theorem dX11_anew_31 : decode cX11_anew 31 = .ok (.aload_n 0, 1) := by decide +kernel
theorem dX11_anew_32 : decode cX11_anew 32 = .ok (.getfield 84, 3) := by decide +kernel
theorem dX11_anew_35 : decode cX11_anew 35 = .ok (.invokevirtual 308, 3) := by decide +kernel
theorem dX11_anew_38 : decode cX11_anew 38 = .ok (.ireturn, 1) := by decide +kernel
theorem dX11_best_0 : decode cX11_best 0 = .ok (.aload_n 0, 1) := by decide +kernel
theorem dX11_best_1 : decode cX11_best 1 = .ok (.invokevirtual 305, 3) := by decide +kernel
theorem dX11_best_4 : decode cX11_best 4 = .ok (.aload_n 0, 1) := by decide +kernel
theorem dX11_best_5 : decode cX11_best 5 = .ok (.getfield 84, 3) := by decide +kernel
theorem dX11_best_8 : decode cX11_best 8 = .ok (.invokevirtual 311, 3) := by decide +kernel
theorem dX11_best_11 : decode cX11_best 11 = .ok (.ireturn, 1) := by decide +kernel
theorem dX11_told_0 : decode cX11_told 0 = .ok (.iload_n 1, 1) := by decide +kernel
theorem dX11_told_1 : decode cX11_told 1 = .ok (.bipush 10, 2) := by decide +kernel
theorem dX11_told_3 : decode cX11_told 3 = .ok (.bipush 14, 2) := by decide +kernel
theorem dX11_told_5 : decode cX11_told 5 = .ok (.invokestatic 92, 3) := by decide +kernel
theorem dX11_told_8 : decode cX11_told 8 = .ok (.ifCond .eq 19, 3) := by decide +kernel
theorem dX11_told_11 : decode cX11_told 11 = .ok (.aload_n 0, 1) := by decide +kernel
theorem dX11_told_12 : decode cX11_told 12 = .ok (.getfield 11, 3) := by decide +kernel
theorem dX11_told_15 : decode cX11_told 15 = .ok (.iload_n 1, 1) := by decide +kernel
theorem dX11_told_16 : decode cX11_told 16 = .ok (.bipush 10, 2) := by decide +kernel
theorem dX11_told_18 : decode cX11_told 18 = .ok (.isub, 1) := by decide +kernel
theorem dX11_told_19 : decode cX11_told 19 = .ok (.aaload, 1) := by decide +kernel
theorem dX11_told_20 : decode cX11_told 20 = .ok (.getfield 112, 3) := by decide +kernel
theorem dX11_told_23 : decode cX11_told 23 = .ok (.getfield 164, 3) := by decide +kernel
theorem dX11_told_26 : decode cX11_told 26 = .ok (.ireturn, 1) := by decide +kernel
theorem dX11_told_27 : decode cX11_told 27 = .ok (.iload_n 1, 1) := by decide +kernel
theorem dX11_told_28 : decode cX11_told 28 = .ok (.bipush 20, 2) := by decide +kernel
theorem dX11_told_30 : decode cX11_told 30 = .ok (.bipush 24, 2) := by decide +kernel
theorem dX11_told_32 : decode cX11_told 32 = .ok (.invokestatic 92, 3) := by decide +kernel
theorem dX11_told_35 : decode cX11_told 35 = .ok (.ifCond .eq 16, 3) := by decide +kernel
theorem dX11_told_38 : decode cX11_told 38 = .ok (.aload_n 0, 1) := by decide +kernel
theorem dX11_told_39 : decode cX11_told 39 = .ok (.getfield 11, 3) := by decide +kernel
theorem dX11_told_42 : decode cX11_told 42 = .ok (.iload_n 1, 1) := by decide +kernel
theorem dX11_told_43 : decode cX11_told 43 = .ok (.bipush 20, 2) := by decide +kernel
theorem dX11_told_45 : decode cX11_told 45 = .ok (.isub, 1) := by decide +kernel
theorem dX11_told_46 : decode cX11_told 46 = .ok (.aaload, 1) := by decide +kernel
theorem dX11_told_47 : decode cX11_told 47 = .ok (.invokevirtual 314, 3) := by decide +kernel
theorem dX11_told_50 : decode cX11_told 50 = .ok (.ireturn, 1) := by decide +kernel
theorem dX11_told_51 : decode cX11_told 51 = .ok (.iload_n 1, 1) := by decide +kernel
theorem dX11_told_52 : decode cX11_told 52 = .ok (.tableswitch 100 0 6 #[44, 52, 60, 68, 79, 90, 95], 44) := by decide +kernel
theorem dX11_told_96 : decode cX11_told 96 = .ok (.aload_n 0, 1) := by decide +kernel
theorem dX11_told_97 : decode cX11_told 97 = .ok (.getfield 21, 3) := by decide +kernel
theorem dX11_told_100 : decode cX11_told 100 = .ok (.getfield 119, 3) := by decide +kernel
theorem dX11_told_103 : decode cX11_told 103 = .ok (.ireturn, 1) := by decide +kernel
theorem dX11_told_104 : decode cX11_told 104 = .ok (.aload_n 0, 1) := by decide +kernel
theorem dX11_told_105 : decode cX11_told 105 = .ok (.getfield 25, 3) := by decide +kernel
theorem dX11_told_108 : decode cX11_told 108 = .ok (.getfield 119, 3) := by decide +kernel
theorem dX11_told_111 : decode cX11_told 111 = .ok (.ireturn, 1) := by decide +kernel
theorem dX11_told_112 : decode cX11_told 112 = .ok (.aload_n 0, 1) := by decide +kernel
theorem dX11_told_113 : decode cX11_told 113 = .ok (.getfield 28, 3) := by decide +kernel
theorem dX11_told_116 : decode cX11_told 116 = .ok (.getfield 119, 3) := by decide +kernel
theorem dX11_told_119 : decode cX11_told 119 = .ok (.ireturn, 1) := by decide +kernel
theorem dX11_told_120 : decode cX11_told 120 = .ok (.aload_n 0, 1) := by decide +kernel
theorem dX11_told_121 : decode cX11_told 121 = .ok (.getfield 50, 3) := by decide +kernel
theorem dX11_told_124 : decode cX11_told 124 = .ok (.getfield 157, 3) := by decide +kernel
theorem dX11_told_127 : decode cX11_told 127 = .ok (.getfield 164, 3) := by decide +kernel
theorem dX11_told_130 : decode cX11_told 130 = .ok (.ireturn, 1) := by decide +kernel
theorem dX11_told_131 : decode cX11_told 131 = .ok (.aload_n 0, 1) := by decide +kernel
theorem dX11_told_132 : decode cX11_told 132 = .ok (.getfield 50, 3) := by decide +kernel
theorem dX11_told_135 : decode cX11_told 135 = .ok (.getfield 187, 3) := by decide +kernel
theorem dX11_told_138 : decode cX11_told 138 = .ok (.getfield 164, 3) := by decide +kernel
theorem dX11_told_141 : decode cX11_told 141 = .ok (.ireturn, 1) := by decide +kernel
theorem dX11_told_142 : decode cX11_told 142 = .ok (.aload_n 0, 1) := by decide +kernel
theorem dX11_told_143 : decode cX11_told 143 = .ok (.getfield 61, 3) := by decide +kernel
theorem dX11_told_146 : decode cX11_told 146 = .ok (.ireturn, 1) := by decide +kernel
theorem dX11_told_147 : decode cX11_told 147 = .ok (.aload_n 0, 1) := by decide +kernel
theorem dX11_told_148 : decode cX11_told 148 = .ok (.invokevirtual 317, 3) := by decide +kernel
theorem dX11_told_151 : decode cX11_told 151 = .ok (.ireturn, 1) := by decide +kernel
theorem dX11_told_152 : decode cX11_told 152 = .ok (.bipush (-2), 2) := by decide +kernel
theorem dX11_told_154 : decode cX11_told 154 = .ok (.ireturn, 1) := by decide +kernel
theorem dX11_within_0 : decode cX11_within 0 = .ok (.iload_n 0, 1) := by decide +kernel
theorem dX11_within_1 : decode cX11_within 1 = .ok (.iload_n 1, 1) := by decide +kernel
theorem dX11_within_2 : decode cX11_within 2 = .ok (.if_icmp .lt 12, 3) := by decide +kernel
theorem dX11_within_5 : decode cX11_within 5 = .ok (.iload_n 0, 1) := by decide +kernel
theorem dX11_within_6 : decode cX11_within 6 = .ok (.iload_n 2, 1) := by decide +kernel
theorem dX11_within_7 : decode cX11_within 7 = .ok (.if_icmp .gt 7, 3) := by decide +kernel
theorem dX11_within_10 : decode cX11_within 10 = .ok (.iconst 1, 1) := by decide +kernel
theorem dX11_within_11 : decode cX11_within 11 = .ok (.goto 4, 3) := by decide +kernel
theorem dX11_within_14 : decode cX11_within 14 = .ok (.iconst 0, 1) := by decide +kernel
theorem dX11_within_15 : decode cX11_within 15 = .ok (.ireturn, 1) := by decide +kernel
theorem dX11_codeAt_0 : decode cX11_codeAt 0 = .ok (.iload_n 1, 1) := by decide +kernel
theorem dX11_codeAt_1 : decode cX11_codeAt 1 = .ok (.iconst 0, 1) := by decide +kernel
theorem dX11_codeAt_2 : decode cX11_codeAt 2 = .ok (.iconst 4, 1) := by decide +kernel
theorem dX11_codeAt_3 : decode cX11_codeAt 3 = .ok (.invokestatic 92, 3) := by decide +kernel
theorem dX11_codeAt_6 : decode cX11_codeAt 6 = .ok (.ifCond .eq 12, 3) := by decide +kernel
theorem dX11_codeAt_9 : decode cX11_codeAt 9 = .ok (.aload_n 0, 1) := by decide +kernel
theorem dX11_codeAt_10 : decode cX11_codeAt 10 = .ok (.getfield 11, 3) := by decide +kernel
theorem dX11_codeAt_13 : decode cX11_codeAt 13 = .ok (.iload_n 1, 1) := by decide +kernel
theorem dX11_codeAt_14 : decode cX11_codeAt 14 = .ok (.aaload, 1) := by decide +kernel
theorem dX11_codeAt_15 : decode cX11_codeAt 15 = .ok (.goto 4, 3) := by decide +kernel
theorem dX11_codeAt_18 : decode cX11_codeAt 18 = .ok (.aconst_null, 1) := by decide +kernel
theorem dX11_codeAt_19 : decode cX11_codeAt 19 = .ok (.areturn, 1) := by decide +kernel
theorem dX11_readerAt_0 : decode cX11_readerAt 0 = .ok (.iload_n 1, 1) := by decide +kernel
theorem dX11_readerAt_1 : decode cX11_readerAt 1 = .ok (.iconst 0, 1) := by decide +kernel
theorem dX11_readerAt_2 : decode cX11_readerAt 2 = .ok (.aload_n 0, 1) := by decide +kernel
theorem dX11_readerAt_3 : decode cX11_readerAt 3 = .ok (.getfield 61, 3) := by decide +kernel
theorem dX11_readerAt_6 : decode cX11_readerAt 6 = .ok (.iconst 1, 1) := by decide +kernel
theorem dX11_readerAt_7 : decode cX11_readerAt 7 = .ok (.isub, 1) := by decide +kernel
theorem dX11_readerAt_8 : decode cX11_readerAt 8 = .ok (.invokestatic 92, 3) := by decide +kernel
theorem dX11_readerAt_11 : decode cX11_readerAt 11 = .ok (.ifCond .eq 12, 3) := by decide +kernel
theorem dX11_readerAt_14 : decode cX11_readerAt 14 = .ok (.aload_n 0, 1) := by decide +kernel
theorem dX11_readerAt_15 : decode cX11_readerAt 15 = .ok (.getfield 56, 3) := by decide +kernel
theorem dX11_readerAt_18 : decode cX11_readerAt 18 = .ok (.iload_n 1, 1) := by decide +kernel
theorem dX11_readerAt_19 : decode cX11_readerAt 19 = .ok (.aaload, 1) := by decide +kernel
theorem dX11_readerAt_20 : decode cX11_readerAt 20 = .ok (.goto 4, 3) := by decide +kernel
theorem dX11_readerAt_23 : decode cX11_readerAt 23 = .ok (.aconst_null, 1) := by decide +kernel
theorem dX11_readerAt_24 : decode cX11_readerAt 24 = .ok (.areturn, 1) := by decide +kernel
theorem dX11_schoolAt_0 : decode cX11_schoolAt 0 = .ok (.iload_n 1, 1) := by decide +kernel
theorem dX11_schoolAt_1 : decode cX11_schoolAt 1 = .ok (.iconst 0, 1) := by decide +kernel
theorem dX11_schoolAt_2 : decode cX11_schoolAt 2 = .ok (.iconst 5, 1) := by decide +kernel
theorem dX11_schoolAt_3 : decode cX11_schoolAt 3 = .ok (.invokestatic 92, 3) := by decide +kernel
theorem dX11_schoolAt_6 : decode cX11_schoolAt 6 = .ok (.ifCond .eq 12, 3) := by decide +kernel
theorem dX11_schoolAt_9 : decode cX11_schoolAt 9 = .ok (.aload_n 0, 1) := by decide +kernel
theorem dX11_schoolAt_10 : decode cX11_schoolAt 10 = .ok (.getfield 67, 3) := by decide +kernel
theorem dX11_schoolAt_13 : decode cX11_schoolAt 13 = .ok (.iload_n 1, 1) := by decide +kernel
theorem dX11_schoolAt_14 : decode cX11_schoolAt 14 = .ok (.aaload, 1) := by decide +kernel
theorem dX11_schoolAt_15 : decode cX11_schoolAt 15 = .ok (.goto 4, 3) := by decide +kernel
theorem dX11_schoolAt_18 : decode cX11_schoolAt 18 = .ok (.aconst_null, 1) := by decide +kernel
theorem dX11_schoolAt_19 : decode cX11_schoolAt 19 = .ok (.areturn, 1) := by decide +kernel
theorem dX11_readable_0 : decode cX11_readable 0 = .ok (.aload_n 0, 1) := by decide +kernel
theorem dX11_readable_1 : decode cX11_readable 1 = .ok (.aload_n 1, 1) := by decide +kernel
theorem dX11_readable_2 : decode cX11_readable 2 = .ok (.getfield 204, 3) := by decide +kernel
theorem dX11_readable_5 : decode cX11_readable 5 = .ok (.invokevirtual 197, 3) := by decide +kernel
theorem dX11_readable_8 : decode cX11_readable 8 = .ok (.astore_n 2, 1) := by decide +kernel
theorem dX11_readable_9 : decode cX11_readable 9 = .ok (.aload_n 2, 1) := by decide +kernel
theorem dX11_readable_10 : decode cX11_readable 10 = .ok (.ifnonnull 7, 3) := by decide +kernel
theorem dX11_readable_13 : decode cX11_readable 13 = .ok (.iconst 0, 1) := by decide +kernel
theorem dX11_readable_14 : decode cX11_readable 14 = .ok (.goto 11, 3) := by decide +kernel
theorem dX11_readable_17 : decode cX11_readable 17 = .ok (.aload_n 2, 1) := by decide +kernel
theorem dX11_readable_18 : decode cX11_readable 18 = .ok (.aload_n 1, 1) := by decide +kernel
theorem dX11_readable_19 : decode cX11_readable 19 = .ok (.invokevirtual 220, 3) := by decide +kernel
theorem dX11_readable_22 : decode cX11_readable 22 = .ok (.invokevirtual 251, 3) := by decide +kernel
theorem dX11_readable_25 : decode cX11_readable 25 = .ok (.ireturn, 1) := by decide +kernel
theorem dX11_readersOf_0 : decode cX11_readersOf 0 = .ok (.iconst 0, 1) := by decide +kernel
theorem dX11_readersOf_1 : decode cX11_readersOf 1 = .ok (.istore_n 2, 1) := by decide +kernel
theorem dX11_readersOf_2 : decode cX11_readersOf 2 = .ok (.iconst 0, 1) := by decide +kernel
theorem dX11_readersOf_3 : decode cX11_readersOf 3 = .ok (.istore_n 3, 1) := by decide +kernel
theorem dX11_readersOf_4 : decode cX11_readersOf 4 = .ok (.iload_n 3, 1) := by decide +kernel
theorem dX11_readersOf_5 : decode cX11_readersOf 5 = .ok (.aload_n 0, 1) := by decide +kernel
theorem dX11_readersOf_6 : decode cX11_readersOf 6 = .ok (.getfield 61, 3) := by decide +kernel
theorem dX11_readersOf_9 : decode cX11_readersOf 9 = .ok (.if_icmp .ge 32, 3) := by decide +kernel
theorem dX11_readersOf_12 : decode cX11_readersOf 12 = .ok (.iload_n 2, 1) := by decide +kernel
theorem dX11_readersOf_13 : decode cX11_readersOf 13 = .ok (.aload_n 0, 1) := by decide +kernel
theorem dX11_readersOf_14 : decode cX11_readersOf 14 = .ok (.getfield 56, 3) := by decide +kernel
theorem dX11_readersOf_17 : decode cX11_readersOf 17 = .ok (.iload_n 3, 1) := by decide +kernel
theorem dX11_readersOf_18 : decode cX11_readersOf 18 = .ok (.aaload, 1) := by decide +kernel
theorem dX11_readersOf_19 : decode cX11_readersOf 19 = .ok (.getfield 204, 3) := by decide +kernel
theorem dX11_readersOf_22 : decode cX11_readersOf 22 = .ok (.iload_n 1, 1) := by decide +kernel
theorem dX11_readersOf_23 : decode cX11_readersOf 23 = .ok (.if_icmp .ne 9, 3) := by decide +kernel
theorem dX11_readersOf_26 : decode cX11_readersOf 26 = .ok (.iconst 1, 1) := by decide +kernel
theorem dX11_readersOf_27 : decode cX11_readersOf 27 = .ok (.iload_n 3, 1) := by decide +kernel
theorem dX11_readersOf_28 : decode cX11_readersOf 28 = .ok (.ishl, 1) := by decide +kernel
theorem dX11_readersOf_29 : decode cX11_readersOf 29 = .ok (.goto 4, 3) := by decide +kernel
theorem dX11_readersOf_32 : decode cX11_readersOf 32 = .ok (.iconst 0, 1) := by decide +kernel
theorem dX11_readersOf_33 : decode cX11_readersOf 33 = .ok (.ior, 1) := by decide +kernel
theorem dX11_readersOf_34 : decode cX11_readersOf 34 = .ok (.istore_n 2, 1) := by decide +kernel
theorem dX11_readersOf_35 : decode cX11_readersOf 35 = .ok (.iinc 3 1, 3) := by decide +kernel
theorem dX11_readersOf_38 : decode cX11_readersOf 38 = .ok (.goto (-34), 3) := by decide +kernel
theorem dX11_readersOf_41 : decode cX11_readersOf 41 = .ok (.iload_n 2, 1) := by decide +kernel
theorem dX11_readersOf_42 : decode cX11_readersOf 42 = .ok (.ireturn, 1) := by decide +kernel
theorem dX11_votersOf_0 : decode cX11_votersOf 0 = .ok (.aload_n 0, 1) := by decide +kernel
theorem dX11_votersOf_1 : decode cX11_votersOf 1 = .ok (.iload_n 1, 1) := by decide +kernel
theorem dX11_votersOf_2 : decode cX11_votersOf 2 = .ok (.invokevirtual 197, 3) := by decide +kernel
theorem dX11_votersOf_5 : decode cX11_votersOf 5 = .ok (.astore_n 2, 1) := by decide +kernel
theorem dX11_votersOf_6 : decode cX11_votersOf 6 = .ok (.iconst 0, 1) := by decide +kernel
theorem dX11_votersOf_7 : decode cX11_votersOf 7 = .ok (.istore_n 3, 1) := by decide +kernel
theorem dX11_votersOf_8 : decode cX11_votersOf 8 = .ok (.iconst 0, 1) := by decide +kernel
theorem dX11_votersOf_9 : decode cX11_votersOf 9 = .ok (.istore 4, 2) := by decide +kernel
theorem dX11_votersOf_11 : decode cX11_votersOf 11 = .ok (.aload_n 2, 1) := by decide +kernel
theorem dX11_votersOf_12 : decode cX11_votersOf 12 = .ok (.ifnull 56, 3) := by decide +kernel
theorem dX11_votersOf_15 : decode cX11_votersOf 15 = .ok (.iload 4, 2) := by decide +kernel
theorem dX11_votersOf_17 : decode cX11_votersOf 17 = .ok (.aload_n 0, 1) := by decide +kernel
theorem dX11_votersOf_18 : decode cX11_votersOf 18 = .ok (.getfield 61, 3) := by decide +kernel
theorem dX11_votersOf_21 : decode cX11_votersOf 21 = .ok (.if_icmp .ge 47, 3) := by decide +kernel
theorem dX11_votersOf_24 : decode cX11_votersOf 24 = .ok (.aload_n 0, 1) := by decide +kernel
theorem dX11_votersOf_25 : decode cX11_votersOf 25 = .ok (.getfield 56, 3) := by decide +kernel
theorem dX11_votersOf_28 : decode cX11_votersOf 28 = .ok (.iload 4, 2) := by decide +kernel
theorem dX11_votersOf_30 : decode cX11_votersOf 30 = .ok (.aaload, 1) := by decide +kernel
theorem dX11_votersOf_31 : decode cX11_votersOf 31 = .ok (.getfield 204, 3) := by decide +kernel
theorem dX11_votersOf_34 : decode cX11_votersOf 34 = .ok (.iload_n 1, 1) := by decide +kernel
theorem dX11_votersOf_35 : decode cX11_votersOf 35 = .ok (.if_icmp .ne 27, 3) := by decide +kernel
theorem dX11_votersOf_38 : decode cX11_votersOf 38 = .ok (.aload_n 2, 1) := by decide +kernel
theorem dX11_votersOf_39 : decode cX11_votersOf 39 = .ok (.getfield 284, 3) := by decide +kernel
theorem dX11_votersOf_42 : decode cX11_votersOf 42 = .ok (.aload_n 0, 1) := by decide +kernel
theorem dX11_votersOf_43 : decode cX11_votersOf 43 = .ok (.getfield 56, 3) := by decide +kernel
theorem dX11_votersOf_46 : decode cX11_votersOf 46 = .ok (.iload 4, 2) := by decide +kernel
theorem dX11_votersOf_48 : decode cX11_votersOf 48 = .ok (.aaload, 1) := by decide +kernel
theorem dX11_votersOf_49 : decode cX11_votersOf 49 = .ok (.invokestatic 320, 3) := by decide +kernel
theorem dX11_votersOf_52 : decode cX11_votersOf 52 = .ok (.ifCond .eq 10, 3) := by decide +kernel
theorem dX11_votersOf_55 : decode cX11_votersOf 55 = .ok (.iload_n 3, 1) := by decide +kernel
theorem dX11_votersOf_56 : decode cX11_votersOf 56 = .ok (.iconst 1, 1) := by decide +kernel
theorem dX11_votersOf_57 : decode cX11_votersOf 57 = .ok (.iload 4, 2) := by decide +kernel
theorem dX11_votersOf_59 : decode cX11_votersOf 59 = .ok (.ishl, 1) := by decide +kernel
theorem dX11_votersOf_60 : decode cX11_votersOf 60 = .ok (.ior, 1) := by decide +kernel
theorem dX11_votersOf_61 : decode cX11_votersOf 61 = .ok (.istore_n 3, 1) := by decide +kernel
theorem dX11_votersOf_62 : decode cX11_votersOf 62 = .ok (.iinc 4 1, 3) := by decide +kernel
theorem dX11_votersOf_65 : decode cX11_votersOf 65 = .ok (.goto (-54), 3) := by decide +kernel
theorem dX11_votersOf_68 : decode cX11_votersOf 68 = .ok (.iload_n 3, 1) := by decide +kernel
theorem dX11_votersOf_69 : decode cX11_votersOf 69 = .ok (.ireturn, 1) := by decide +kernel
theorem dX11_countOwners_0 : decode cX11_countOwners 0 = .ok (.iconst 0, 1) := by decide +kernel
theorem dX11_countOwners_1 : decode cX11_countOwners 1 = .ok (.istore_n 3, 1) := by decide +kernel
theorem dX11_countOwners_2 : decode cX11_countOwners 2 = .ok (.iconst 0, 1) := by decide +kernel
theorem dX11_countOwners_3 : decode cX11_countOwners 3 = .ok (.istore 4, 2) := by decide +kernel
theorem dX11_countOwners_5 : decode cX11_countOwners 5 = .ok (.iload 4, 2) := by decide +kernel
theorem dX11_countOwners_7 : decode cX11_countOwners 7 = .ok (.aload_n 0, 1) := by decide +kernel
theorem dX11_countOwners_8 : decode cX11_countOwners 8 = .ok (.getfield 61, 3) := by decide +kernel
theorem dX11_countOwners_11 : decode cX11_countOwners 11 = .ok (.if_icmp .ge 36, 3) := by decide +kernel
theorem dX11_countOwners_14 : decode cX11_countOwners 14 = .ok (.iload_n 2, 1) := by decide +kernel
theorem dX11_countOwners_15 : decode cX11_countOwners 15 = .ok (.iload 4, 2) := by decide +kernel
theorem dX11_countOwners_17 : decode cX11_countOwners 17 = .ok (.ishr, 1) := by decide +kernel
theorem dX11_countOwners_18 : decode cX11_countOwners 18 = .ok (.iconst 1, 1) := by decide +kernel
theorem dX11_countOwners_19 : decode cX11_countOwners 19 = .ok (.iand, 1) := by decide +kernel
theorem dX11_countOwners_20 : decode cX11_countOwners 20 = .ok (.iconst 1, 1) := by decide +kernel
theorem dX11_countOwners_21 : decode cX11_countOwners 21 = .ok (.if_icmp .ne 20, 3) := by decide +kernel
theorem dX11_countOwners_24 : decode cX11_countOwners 24 = .ok (.aload_n 0, 1) := by decide +kernel
theorem dX11_countOwners_25 : decode cX11_countOwners 25 = .ok (.getfield 56, 3) := by decide +kernel
theorem dX11_countOwners_28 : decode cX11_countOwners 28 = .ok (.iload 4, 2) := by decide +kernel
theorem dX11_countOwners_30 : decode cX11_countOwners 30 = .ok (.aaload, 1) := by decide +kernel
theorem dX11_countOwners_31 : decode cX11_countOwners 31 = .ok (.invokevirtual 217, 3) := by decide +kernel
theorem dX11_countOwners_34 : decode cX11_countOwners 34 = .ok (.iload_n 1, 1) := by decide +kernel
theorem dX11_countOwners_35 : decode cX11_countOwners 35 = .ok (.if_icmp .ne 6, 3) := by decide +kernel
theorem dX11_countOwners_38 : decode cX11_countOwners 38 = .ok (.iinc 3 1, 3) := by decide +kernel
theorem dX11_countOwners_41 : decode cX11_countOwners 41 = .ok (.iinc 4 1, 3) := by decide +kernel
theorem dX11_countOwners_44 : decode cX11_countOwners 44 = .ok (.goto (-39), 3) := by decide +kernel
theorem dX11_countOwners_47 : decode cX11_countOwners 47 = .ok (.iload_n 3, 1) := by decide +kernel
theorem dX11_countOwners_48 : decode cX11_countOwners 48 = .ok (.ireturn, 1) := by decide +kernel
theorem dX11_countAllOwners_0 : decode cX11_countAllOwners 0 = .ok (.iconst 0, 1) := by decide +kernel
theorem dX11_countAllOwners_1 : decode cX11_countAllOwners 1 = .ok (.istore_n 1, 1) := by decide +kernel
theorem dX11_countAllOwners_2 : decode cX11_countAllOwners 2 = .ok (.iload_n 1, 1) := by decide +kernel
theorem dX11_countAllOwners_3 : decode cX11_countAllOwners 3 = .ok (.iconst 5, 1) := by decide +kernel
theorem dX11_countAllOwners_4 : decode cX11_countAllOwners 4 = .ok (.if_icmp .ge 26, 3) := by decide +kernel
theorem dX11_countAllOwners_7 : decode cX11_countAllOwners 7 = .ok (.aload_n 0, 1) := by decide +kernel
theorem dX11_countAllOwners_8 : decode cX11_countAllOwners 8 = .ok (.getfield 84, 3) := by decide +kernel
theorem dX11_countAllOwners_11 : decode cX11_countAllOwners 11 = .ok (.getfield 324, 3) := by decide +kernel
theorem dX11_countAllOwners_14 : decode cX11_countAllOwners 14 = .ok (.iload_n 1, 1) := by decide +kernel
theorem dX11_countAllOwners_15 : decode cX11_countAllOwners 15 = .ok (.aload_n 0, 1) := by decide +kernel
theorem dX11_countAllOwners_16 : decode cX11_countAllOwners 16 = .ok (.iload_n 1, 1) := by decide +kernel
theorem dX11_countAllOwners_17 : decode cX11_countAllOwners 17 = .ok (.ldc_w 327, 3) := by decide +kernel
theorem dX11_countAllOwners_20 : decode cX11_countAllOwners 20 = .ok (.invokevirtual 293, 3) := by decide +kernel
theorem dX11_countAllOwners_23 : decode cX11_countAllOwners 23 = .ok (.iastore, 1) := by decide +kernel
theorem dX11_countAllOwners_24 : decode cX11_countAllOwners 24 = .ok (.iinc 1 1, 3) := by decide +kernel
theorem dX11_countAllOwners_27 : decode cX11_countAllOwners 27 = .ok (.goto (-25), 3) := by decide +kernel
theorem dX11_countAllOwners_30 : decode cX11_countAllOwners 30 = .ok (.return_, 1) := by decide +kernel
theorem dX11_hopeFrom_0 : decode cX11_hopeFrom 0 = .ok (.aload_n 0, 1) := by decide +kernel
theorem dX11_hopeFrom_1 : decode cX11_hopeFrom 1 = .ok (.getfield 75, 3) := by decide +kernel
theorem dX11_hopeFrom_4 : decode cX11_hopeFrom 4 = .ok (.getfield 328, 3) := by decide +kernel
theorem dX11_hopeFrom_7 : decode cX11_hopeFrom 7 = .ok (.iconst 0, 1) := by decide +kernel
theorem dX11_hopeFrom_8 : decode cX11_hopeFrom 8 = .ok (.invokestatic 331, 3) := by decide +kernel
theorem dX11_hopeFrom_11 : decode cX11_hopeFrom 11 = .ok (.iconst 0, 1) := by decide +kernel
theorem dX11_hopeFrom_12 : decode cX11_hopeFrom 12 = .ok (.istore_n 2, 1) := by decide +kernel
theorem dX11_hopeFrom_13 : decode cX11_hopeFrom 13 = .ok (.iconst 0, 1) := by decide +kernel
theorem dX11_hopeFrom_14 : decode cX11_hopeFrom 14 = .ok (.istore_n 3, 1) := by decide +kernel
theorem dX11_hopeFrom_15 : decode cX11_hopeFrom 15 = .ok (.iload_n 3, 1) := by decide +kernel
theorem dX11_hopeFrom_16 : decode cX11_hopeFrom 16 = .ok (.aload_n 0, 1) := by decide +kernel
theorem dX11_hopeFrom_17 : decode cX11_hopeFrom 17 = .ok (.getfield 61, 3) := by decide +kernel
theorem dX11_hopeFrom_20 : decode cX11_hopeFrom 20 = .ok (.if_icmp .ge 75, 3) := by decide +kernel
theorem dX11_hopeFrom_23 : decode cX11_hopeFrom 23 = .ok (.aload_n 0, 1) := by decide +kernel
theorem dX11_hopeFrom_24 : decode cX11_hopeFrom 24 = .ok (.getfield 56, 3) := by decide +kernel
theorem dX11_hopeFrom_27 : decode cX11_hopeFrom 27 = .ok (.iload_n 3, 1) := by decide +kernel
theorem dX11_hopeFrom_28 : decode cX11_hopeFrom 28 = .ok (.aaload, 1) := by decide +kernel
theorem dX11_hopeFrom_29 : decode cX11_hopeFrom 29 = .ok (.astore 4, 2) := by decide +kernel
theorem dX11_hopeFrom_31 : decode cX11_hopeFrom 31 = .ok (.aload 4, 2) := by decide +kernel
theorem dX11_hopeFrom_33 : decode cX11_hopeFrom 33 = .ok (.getfield 214, 3) := by decide +kernel
theorem dX11_hopeFrom_36 : decode cX11_hopeFrom 36 = .ok (.iload_n 1, 1) := by decide +kernel
theorem dX11_hopeFrom_37 : decode cX11_hopeFrom 37 = .ok (.iaload, 1) := by decide +kernel
theorem dX11_hopeFrom_38 : decode cX11_hopeFrom 38 = .ok (.ifCond .le 51, 3) := by decide +kernel
theorem dX11_hopeFrom_41 : decode cX11_hopeFrom 41 = .ok (.aload_n 0, 1) := by decide +kernel
theorem dX11_hopeFrom_42 : decode cX11_hopeFrom 42 = .ok (.aload 4, 2) := by decide +kernel
theorem dX11_hopeFrom_44 : decode cX11_hopeFrom 44 = .ok (.invokevirtual 244, 3) := by decide +kernel
theorem dX11_hopeFrom_47 : decode cX11_hopeFrom 47 = .ok (.istore 5, 2) := by decide +kernel
theorem dX11_hopeFrom_49 : decode cX11_hopeFrom 49 = .ok (.iconst 0, 1) := by decide +kernel
theorem dX11_hopeFrom_50 : decode cX11_hopeFrom 50 = .ok (.istore 6, 2) := by decide +kernel
theorem dX11_hopeFrom_52 : decode cX11_hopeFrom 52 = .ok (.iload 6, 2) := by decide +kernel
theorem dX11_hopeFrom_54 : decode cX11_hopeFrom 54 = .ok (.bipush 8, 2) := by decide +kernel
theorem dX11_hopeFrom_56 : decode cX11_hopeFrom 56 = .ok (.if_icmp .ge 31, 3) := by decide +kernel
theorem dX11_hopeFrom_59 : decode cX11_hopeFrom 59 = .ok (.aload_n 0, 1) := by decide +kernel
theorem dX11_hopeFrom_60 : decode cX11_hopeFrom 60 = .ok (.getfield 75, 3) := by decide +kernel
theorem dX11_hopeFrom_63 : decode cX11_hopeFrom 63 = .ok (.getfield 328, 3) := by decide +kernel
theorem dX11_hopeFrom_66 : decode cX11_hopeFrom 66 = .ok (.iload 6, 2) := by decide +kernel
theorem dX11_hopeFrom_68 : decode cX11_hopeFrom 68 = .ok (.dup2, 1) := by decide +kernel
theorem dX11_hopeFrom_69 : decode cX11_hopeFrom 69 = .ok (.iaload, 1) := by decide +kernel
theorem dX11_hopeFrom_70 : decode cX11_hopeFrom 70 = .ok (.iconst 1, 1) := by decide +kernel
theorem dX11_hopeFrom_71 : decode cX11_hopeFrom 71 = .ok (.iload 5, 2) := by decide +kernel
theorem dX11_hopeFrom_73 : decode cX11_hopeFrom 73 = .ok (.iload 6, 2) := by decide +kernel
theorem dX11_hopeFrom_75 : decode cX11_hopeFrom 75 = .ok (.ishr, 1) := by decide +kernel
theorem dX11_hopeFrom_76 : decode cX11_hopeFrom 76 = .ok (.iconst 1, 1) := by decide +kernel
theorem dX11_hopeFrom_77 : decode cX11_hopeFrom 77 = .ok (.iand, 1) := by decide +kernel
theorem dX11_hopeFrom_78 : decode cX11_hopeFrom 78 = .ok (.isub, 1) := by decide +kernel
theorem dX11_hopeFrom_79 : decode cX11_hopeFrom 79 = .ok (.iadd, 1) := by decide +kernel
theorem dX11_hopeFrom_80 : decode cX11_hopeFrom 80 = .ok (.iastore, 1) := by decide +kernel
theorem dX11_hopeFrom_81 : decode cX11_hopeFrom 81 = .ok (.iinc 6 1, 3) := by decide +kernel
theorem dX11_hopeFrom_84 : decode cX11_hopeFrom 84 = .ok (.goto (-32), 3) := by decide +kernel
theorem dX11_hopeFrom_87 : decode cX11_hopeFrom 87 = .ok (.iconst 1, 1) := by decide +kernel
theorem dX11_hopeFrom_88 : decode cX11_hopeFrom 88 = .ok (.istore_n 2, 1) := by decide +kernel
theorem dX11_hopeFrom_89 : decode cX11_hopeFrom 89 = .ok (.iinc 3 1, 3) := by decide +kernel
theorem dX11_hopeFrom_92 : decode cX11_hopeFrom 92 = .ok (.goto (-77), 3) := by decide +kernel
theorem dX11_hopeFrom_95 : decode cX11_hopeFrom 95 = .ok (.iload_n 2, 1) := by decide +kernel
theorem dX11_hopeFrom_96 : decode cX11_hopeFrom 96 = .ok (.ireturn, 1) := by decide +kernel
theorem dX11_priceBooks_0 : decode cX11_priceBooks 0 = .ok (.iconst 0, 1) := by decide +kernel
theorem dX11_priceBooks_1 : decode cX11_priceBooks 1 = .ok (.istore_n 1, 1) := by decide +kernel
theorem dX11_priceBooks_2 : decode cX11_priceBooks 2 = .ok (.iload_n 1, 1) := by decide +kernel
theorem dX11_priceBooks_3 : decode cX11_priceBooks 3 = .ok (.bipush 8, 2) := by decide +kernel
theorem dX11_priceBooks_5 : decode cX11_priceBooks 5 = .ok (.if_icmp .ge 43, 3) := by decide +kernel
theorem dX11_priceBooks_8 : decode cX11_priceBooks 8 = .ok (.aload_n 0, 1) := by decide +kernel
theorem dX11_priceBooks_9 : decode cX11_priceBooks 9 = .ok (.getfield 75, 3) := by decide +kernel
theorem dX11_priceBooks_12 : decode cX11_priceBooks 12 = .ok (.getfield 337, 3) := by decide +kernel
theorem dX11_priceBooks_15 : decode cX11_priceBooks 15 = .ok (.iload_n 1, 1) := by decide +kernel
theorem dX11_priceBooks_16 : decode cX11_priceBooks 16 = .ok (.aload_n 0, 1) := by decide +kernel
theorem dX11_priceBooks_17 : decode cX11_priceBooks 17 = .ok (.getfield 50, 3) := by decide +kernel
theorem dX11_priceBooks_20 : decode cX11_priceBooks 20 = .ok (.iload_n 1, 1) := by decide +kernel
theorem dX11_priceBooks_21 : decode cX11_priceBooks 21 = .ok (.invokevirtual 174, 3) := by decide +kernel
theorem dX11_priceBooks_24 : decode cX11_priceBooks 24 = .ok (.ifCond .eq 14, 3) := by decide +kernel
theorem dX11_priceBooks_27 : decode cX11_priceBooks 27 = .ok (.aload_n 0, 1) := by decide +kernel
theorem dX11_priceBooks_28 : decode cX11_priceBooks 28 = .ok (.getfield 50, 3) := by decide +kernel
theorem dX11_priceBooks_31 : decode cX11_priceBooks 31 = .ok (.iload_n 1, 1) := by decide +kernel
theorem dX11_priceBooks_32 : decode cX11_priceBooks 32 = .ok (.invokevirtual 184, 3) := by decide +kernel
theorem dX11_priceBooks_35 : decode cX11_priceBooks 35 = .ok (.goto 6, 3) := by decide +kernel
theorem dX11_priceBooks_38 : decode cX11_priceBooks 38 = .ok (.ldc_w 340, 3) := by decide +kernel
theorem dX11_priceBooks_41 : decode cX11_priceBooks 41 = .ok (.iastore, 1) := by decide +kernel
theorem dX11_priceBooks_42 : decode cX11_priceBooks 42 = .ok (.iinc 1 1, 3) := by decide +kernel
theorem dX11_priceBooks_45 : decode cX11_priceBooks 45 = .ok (.goto (-43), 3) := by decide +kernel
theorem dX11_priceBooks_48 : decode cX11_priceBooks 48 = .ok (.return_, 1) := by decide +kernel
theorem dX11_allCopies_0 : decode cX11_allCopies 0 = .ok (.iconst 0, 1) := by decide +kernel
theorem dX11_allCopies_1 : decode cX11_allCopies 1 = .ok (.istore_n 1, 1) := by decide +kernel
theorem dX11_allCopies_2 : decode cX11_allCopies 2 = .ok (.iconst 0, 1) := by decide +kernel
theorem dX11_allCopies_3 : decode cX11_allCopies 3 = .ok (.istore_n 2, 1) := by decide +kernel
theorem dX11_allCopies_4 : decode cX11_allCopies 4 = .ok (.iload_n 2, 1) := by decide +kernel
theorem dX11_allCopies_5 : decode cX11_allCopies 5 = .ok (.bipush 6, 2) := by decide +kernel
theorem dX11_allCopies_7 : decode cX11_allCopies 7 = .ok (.if_icmp .ge 22, 3) := by decide +kernel
theorem dX11_allCopies_10 : decode cX11_allCopies 10 = .ok (.iload_n 1, 1) := by decide +kernel
theorem dX11_allCopies_11 : decode cX11_allCopies 11 = .ok (.aload_n 0, 1) := by decide +kernel
theorem dX11_allCopies_12 : decode cX11_allCopies 12 = .ok (.getfield 67, 3) := by decide +kernel
theorem dX11_allCopies_15 : decode cX11_allCopies 15 = .ok (.iload_n 2, 1) := by decide +kernel
theorem dX11_allCopies_16 : decode cX11_allCopies 16 = .ok (.aaload, 1) := by decide +kernel
theorem dX11_allCopies_17 : decode cX11_allCopies 17 = .ok (.iconst 0, 1) := by decide +kernel
theorem dX11_allCopies_18 : decode cX11_allCopies 18 = .ok (.invokevirtual 248, 3) := by decide +kernel
theorem dX11_allCopies_21 : decode cX11_allCopies 21 = .ok (.iadd, 1) := by decide +kernel
theorem dX11_allCopies_22 : decode cX11_allCopies 22 = .ok (.istore_n 1, 1) := by decide +kernel
theorem dX11_allCopies_23 : decode cX11_allCopies 23 = .ok (.iinc 2 1, 3) := by decide +kernel
theorem dX11_allCopies_26 : decode cX11_allCopies 26 = .ok (.goto (-22), 3) := by decide +kernel
theorem dX11_allCopies_29 : decode cX11_allCopies 29 = .ok (.iload_n 1, 1) := by decide +kernel
theorem dX11_allCopies_30 : decode cX11_allCopies 30 = .ok (.ireturn, 1) := by decide +kernel
