theorem d7_init_0 : decode b7_init 0 = .ok (.aload_n 0, 1) := by decide +kernel
theorem d7_init_1 : decode b7_init 1 = .ok (.invokespecial 1, 3) := by decide +kernel
theorem d7_init_4 : decode b7_init 4 = .ok (.aload_n 0, 1) := by decide +kernel
theorem d7_init_5 : decode b7_init 5 = .ok (.bipush 16, 2) := by decide +kernel
theorem d7_init_7 : decode b7_init 7 = .ok (.newarray .boolean, 2) := by decide +kernel
theorem d7_init_9 : decode b7_init 9 = .ok (.putfield 7, 3) := by decide +kernel
theorem d7_init_12 : decode b7_init 12 = .ok (.aload_n 0, 1) := by decide +kernel
theorem d7_init_13 : decode b7_init 13 = .ok (.bipush 16, 2) := by decide +kernel
theorem d7_init_15 : decode b7_init 15 = .ok (.newarray .int, 2) := by decide +kernel
theorem d7_init_17 : decode b7_init 17 = .ok (.putfield 13, 3) := by decide +kernel
theorem d7_init_20 : decode b7_init 20 = .ok (.aload_n 0, 1) := by decide +kernel
theorem d7_init_21 : decode b7_init 21 = .ok (.bipush 16, 2) := by decide +kernel
theorem d7_init_23 : decode b7_init 23 = .ok (.newarray .int, 2) := by decide +kernel
theorem d7_init_25 : decode b7_init 25 = .ok (.putfield 17, 3) := by decide +kernel
theorem d7_init_28 : decode b7_init 28 = .ok (.aload_n 0, 1) := by decide +kernel
theorem d7_init_29 : decode b7_init 29 = .ok (.bipush 16, 2) := by decide +kernel
theorem d7_init_31 : decode b7_init 31 = .ok (.newarray .int, 2) := by decide +kernel
theorem d7_init_33 : decode b7_init 33 = .ok (.putfield 20, 3) := by decide +kernel
theorem d7_init_36 : decode b7_init 36 = .ok (.aload_n 0, 1) := by decide +kernel
theorem d7_init_37 : decode b7_init 37 = .ok (.bipush 16, 2) := by decide +kernel
theorem d7_init_39 : decode b7_init 39 = .ok (.newarray .int, 2) := by decide +kernel
theorem d7_init_41 : decode b7_init 41 = .ok (.putfield 23, 3) := by decide +kernel
theorem d7_init_44 : decode b7_init 44 = .ok (.aload_n 0, 1) := by decide +kernel
theorem d7_init_45 : decode b7_init 45 = .ok (.iconst (-1), 1) := by decide +kernel
theorem d7_init_46 : decode b7_init 46 = .ok (.putfield 26, 3) := by decide +kernel
theorem d7_init_49 : decode b7_init 49 = .ok (.aload_n 0, 1) := by decide +kernel
theorem d7_init_50 : decode b7_init 50 = .ok (.iconst (-1), 1) := by decide +kernel
theorem d7_init_51 : decode b7_init 51 = .ok (.putfield 30, 3) := by decide +kernel
theorem d7_init_54 : decode b7_init 54 = .ok (.aload_n 0, 1) := by decide +kernel
theorem d7_init_55 : decode b7_init 55 = .ok (.bipush 32, 2) := by decide +kernel
theorem d7_init_57 : decode b7_init 57 = .ok (.newarray .boolean, 2) := by decide +kernel
theorem d7_init_59 : decode b7_init 59 = .ok (.putfield 33, 3) := by decide +kernel
theorem d7_init_62 : decode b7_init 62 = .ok (.aload_n 0, 1) := by decide +kernel
theorem d7_init_63 : decode b7_init 63 = .ok (.bipush 32, 2) := by decide +kernel
theorem d7_init_65 : decode b7_init 65 = .ok (.newarray .boolean, 2) := by decide +kernel
theorem d7_init_67 : decode b7_init 67 = .ok (.putfield 36, 3) := by decide +kernel
theorem d7_init_70 : decode b7_init 70 = .ok (.aload_n 0, 1) := by decide +kernel
theorem d7_init_71 : decode b7_init 71 = .ok (.bipush 32, 2) := by decide +kernel
theorem d7_init_73 : decode b7_init 73 = .ok (.newarray .int, 2) := by decide +kernel
theorem d7_init_75 : decode b7_init 75 = .ok (.putfield 39, 3) := by decide +kernel
theorem d7_init_78 : decode b7_init 78 = .ok (.aload_n 0, 1) := by decide +kernel
theorem d7_init_79 : decode b7_init 79 = .ok (.bipush 32, 2) := by decide +kernel
theorem d7_init_81 : decode b7_init 81 = .ok (.newarray .int, 2) := by decide +kernel
theorem d7_init_83 : decode b7_init 83 = .ok (.putfield 42, 3) := by decide +kernel
theorem d7_init_86 : decode b7_init 86 = .ok (.aload_n 0, 1) := by decide +kernel
theorem d7_init_87 : decode b7_init 87 = .ok (.bipush 64, 2) := by decide +kernel
theorem d7_init_89 : decode b7_init 89 = .ok (.newarray .int, 2) := by decide +kernel
theorem d7_init_91 : decode b7_init 91 = .ok (.putfield 45, 3) := by decide +kernel
theorem d7_init_94 : decode b7_init 94 = .ok (.aload_n 0, 1) := by decide +kernel
theorem d7_init_95 : decode b7_init 95 = .ok (.bipush 64, 2) := by decide +kernel
theorem d7_init_97 : decode b7_init 97 = .ok (.newarray .int, 2) := by decide +kernel
theorem d7_init_99 : decode b7_init 99 = .ok (.putfield 48, 3) := by decide +kernel
theorem d7_init_102 : decode b7_init 102 = .ok (.aload_n 0, 1) := by decide +kernel
theorem d7_init_103 : decode b7_init 103 = .ok (.sipush 384, 3) := by decide +kernel
theorem d7_init_106 : decode b7_init 106 = .ok (.newarray .int, 2) := by decide +kernel
theorem d7_init_108 : decode b7_init 108 = .ok (.putfield 51, 3) := by decide +kernel
theorem d7_init_111 : decode b7_init 111 = .ok (.aload_n 0, 1) := by decide +kernel
theorem d7_init_112 : decode b7_init 112 = .ok (.sipush 384, 3) := by decide +kernel
theorem d7_init_115 : decode b7_init 115 = .ok (.newarray .int, 2) := by decide +kernel
theorem d7_init_117 : decode b7_init 117 = .ok (.putfield 54, 3) := by decide +kernel
theorem d7_init_120 : decode b7_init 120 = .ok (.aload_n 0, 1) := by decide +kernel
theorem d7_init_121 : decode b7_init 121 = .ok (.bipush 64, 2) := by decide +kernel
theorem d7_init_123 : decode b7_init 123 = .ok (.newarray .int, 2) := by decide +kernel
theorem d7_init_125 : decode b7_init 125 = .ok (.putfield 57, 3) := by decide +kernel
theorem d7_init_128 : decode b7_init 128 = .ok (.aload_n 0, 1) := by decide +kernel
theorem d7_init_129 : decode b7_init 129 = .ok (.bipush 64, 2) := by decide +kernel
theorem d7_init_131 : decode b7_init 131 = .ok (.newarray .boolean, 2) := by decide +kernel
theorem d7_init_133 : decode b7_init 133 = .ok (.putfield 60, 3) := by decide +kernel
theorem d7_init_136 : decode b7_init 136 = .ok (.aload_n 0, 1) := by decide +kernel
theorem d7_init_137 : decode b7_init 137 = .ok (.bipush 60, 2) := by decide +kernel
theorem d7_init_139 : decode b7_init 139 = .ok (.newarray .int, 2) := by decide +kernel
theorem d7_init_141 : decode b7_init 141 = .ok (.putfield 63, 3) := by decide +kernel
theorem d7_init_144 : decode b7_init 144 = .ok (.aload_n 0, 1) := by decide +kernel
theorem d7_init_145 : decode b7_init 145 = .ok (.bipush 60, 2) := by decide +kernel
theorem d7_init_147 : decode b7_init 147 = .ok (.newarray .int, 2) := by decide +kernel
theorem d7_init_149 : decode b7_init 149 = .ok (.putfield 66, 3) := by decide +kernel
theorem d7_init_152 : decode b7_init 152 = .ok (.aload_n 0, 1) := by decide +kernel
theorem d7_init_153 : decode b7_init 153 = .ok (.bipush 60, 2) := by decide +kernel
theorem d7_init_155 : decode b7_init 155 = .ok (.newarray .int, 2) := by decide +kernel
theorem d7_init_157 : decode b7_init 157 = .ok (.putfield 69, 3) := by decide +kernel
theorem d7_init_160 : decode b7_init 160 = .ok (.aload_n 0, 1) := by decide +kernel
theorem d7_init_161 : decode b7_init 161 = .ok (.bipush 60, 2) := by decide +kernel
theorem d7_init_163 : decode b7_init 163 = .ok (.newarray .int, 2) := by decide +kernel
theorem d7_init_165 : decode b7_init 165 = .ok (.putfield 72, 3) := by decide +kernel
theorem d7_init_168 : decode b7_init 168 = .ok (.aload_n 0, 1) := by decide +kernel
theorem d7_init_169 : decode b7_init 169 = .ok (.bipush 60, 2) := by decide +kernel
theorem d7_init_171 : decode b7_init 171 = .ok (.newarray .boolean, 2) := by decide +kernel
theorem d7_init_173 : decode b7_init 173 = .ok (.putfield 75, 3) := by decide +kernel
theorem d7_init_176 : decode b7_init 176 = .ok (.aload_n 0, 1) := by decide +kernel
theorem d7_init_177 : decode b7_init 177 = .ok (.bipush 60, 2) := by decide +kernel
theorem d7_init_179 : decode b7_init 179 = .ok (.newarray .int, 2) := by decide +kernel
theorem d7_init_181 : decode b7_init 181 = .ok (.putfield 78, 3) := by decide +kernel
theorem d7_init_184 : decode b7_init 184 = .ok (.aload_n 0, 1) := by decide +kernel
theorem d7_init_185 : decode b7_init 185 = .ok (.iconst (-1), 1) := by decide +kernel
theorem d7_init_186 : decode b7_init 186 = .ok (.putfield 81, 3) := by decide +kernel
theorem d7_init_189 : decode b7_init 189 = .ok (.aload_n 0, 1) := by decide +kernel
theorem d7_init_190 : decode b7_init 190 = .ok (.sipush 1800, 3) := by decide +kernel
theorem d7_init_193 : decode b7_init 193 = .ok (.newarray .int, 2) := by decide +kernel
theorem d7_init_195 : decode b7_init 195 = .ok (.putfield 84, 3) := by decide +kernel
theorem d7_init_198 : decode b7_init 198 = .ok (.aload_n 0, 1) := by decide +kernel
theorem d7_init_199 : decode b7_init 199 = .ok (.iconst 2, 1) := by decide +kernel
theorem d7_init_200 : decode b7_init 200 = .ok (.newarray .boolean, 2) := by decide +kernel
theorem d7_init_202 : decode b7_init 202 = .ok (.putfield 87, 3) := by decide +kernel
theorem d7_init_205 : decode b7_init 205 = .ok (.aload_n 0, 1) := by decide +kernel
theorem d7_init_206 : decode b7_init 206 = .ok (.bipush 64, 2) := by decide +kernel
theorem d7_init_208 : decode b7_init 208 = .ok (.newarray .int, 2) := by decide +kernel
theorem d7_init_210 : decode b7_init 210 = .ok (.putfield 90, 3) := by decide +kernel
theorem d7_init_213 : decode b7_init 213 = .ok (.iconst 0, 1) := by decide +kernel
theorem d7_init_214 : decode b7_init 214 = .ok (.istore_n 1, 1) := by decide +kernel
theorem d7_init_215 : decode b7_init 215 = .ok (.iload_n 1, 1) := by decide +kernel
theorem d7_init_216 : decode b7_init 216 = .ok (.bipush 64, 2) := by decide +kernel
theorem d7_init_218 : decode b7_init 218 = .ok (.if_icmp .ge 16, 3) := by decide +kernel
theorem d7_init_221 : decode b7_init 221 = .ok (.aload_n 0, 1) := by decide +kernel
theorem d7_init_222 : decode b7_init 222 = .ok (.getfield 45, 3) := by decide +kernel
theorem d7_init_225 : decode b7_init 225 = .ok (.iload_n 1, 1) := by decide +kernel
theorem d7_init_226 : decode b7_init 226 = .ok (.iconst (-1), 1) := by decide +kernel
theorem d7_init_227 : decode b7_init 227 = .ok (.iastore, 1) := by decide +kernel
theorem d7_init_228 : decode b7_init 228 = .ok (.iinc 1 1, 3) := by decide +kernel
theorem d7_init_231 : decode b7_init 231 = .ok (.goto (-16), 3) := by decide +kernel
theorem d7_init_234 : decode b7_init 234 = .ok (.return_, 1) := by decide +kernel
theorem d7_in_0 : decode b7_in 0 = .ok (.iload_n 0, 1) := by decide +kernel
theorem d7_in_1 : decode b7_in 1 = .ok (.iload_n 1, 1) := by decide +kernel
theorem d7_in_2 : decode b7_in 2 = .ok (.if_icmp .lt 12, 3) := by decide +kernel
theorem d7_in_5 : decode b7_in 5 = .ok (.iload_n 0, 1) := by decide +kernel
theorem d7_in_6 : decode b7_in 6 = .ok (.iload_n 2, 1) := by decide +kernel
theorem d7_in_7 : decode b7_in 7 = .ok (.if_icmp .gt 7, 3) := by decide +kernel
theorem d7_in_10 : decode b7_in 10 = .ok (.iconst 1, 1) := by decide +kernel
theorem d7_in_11 : decode b7_in 11 = .ok (.goto 4, 3) := by decide +kernel
theorem d7_in_14 : decode b7_in 14 = .ok (.iconst 0, 1) := by decide +kernel
theorem d7_in_15 : decode b7_in 15 = .ok (.ireturn, 1) := by decide +kernel
theorem d7_hasUser_0 : decode b7_hasUser 0 = .ok (.iload_n 1, 1) := by decide +kernel
theorem d7_hasUser_1 : decode b7_hasUser 1 = .ok (.iconst 0, 1) := by decide +kernel
theorem d7_hasUser_2 : decode b7_hasUser 2 = .ok (.bipush 15, 2) := by decide +kernel
theorem d7_hasUser_4 : decode b7_hasUser 4 = .ok (.invokestatic 93, 3) := by decide +kernel
theorem d7_hasUser_7 : decode b7_hasUser 7 = .ok (.ifCond .eq 16, 3) := by decide +kernel
theorem d7_hasUser_10 : decode b7_hasUser 10 = .ok (.aload_n 0, 1) := by decide +kernel
theorem d7_hasUser_11 : decode b7_hasUser 11 = .ok (.getfield 7, 3) := by decide +kernel
theorem d7_hasUser_14 : decode b7_hasUser 14 = .ok (.iload_n 1, 1) := by decide +kernel
theorem d7_hasUser_15 : decode b7_hasUser 15 = .ok (.baload, 1) := by decide +kernel
theorem d7_hasUser_16 : decode b7_hasUser 16 = .ok (.ifCond .eq 7, 3) := by decide +kernel
theorem d7_hasUser_19 : decode b7_hasUser 19 = .ok (.iconst 1, 1) := by decide +kernel
theorem d7_hasUser_20 : decode b7_hasUser 20 = .ok (.goto 4, 3) := by decide +kernel
theorem d7_hasUser_23 : decode b7_hasUser 23 = .ok (.iconst 0, 1) := by decide +kernel
theorem d7_hasUser_24 : decode b7_hasUser 24 = .ok (.ireturn, 1) := by decide +kernel
theorem d7_hasItem_0 : decode b7_hasItem 0 = .ok (.iload_n 1, 1) := by decide +kernel
theorem d7_hasItem_1 : decode b7_hasItem 1 = .ok (.iconst 0, 1) := by decide +kernel
theorem d7_hasItem_2 : decode b7_hasItem 2 = .ok (.bipush 31, 2) := by decide +kernel
theorem d7_hasItem_4 : decode b7_hasItem 4 = .ok (.invokestatic 93, 3) := by decide +kernel
theorem d7_hasItem_7 : decode b7_hasItem 7 = .ok (.ifCond .eq 16, 3) := by decide +kernel
theorem d7_hasItem_10 : decode b7_hasItem 10 = .ok (.aload_n 0, 1) := by decide +kernel
theorem d7_hasItem_11 : decode b7_hasItem 11 = .ok (.getfield 33, 3) := by decide +kernel
theorem d7_hasItem_14 : decode b7_hasItem 14 = .ok (.iload_n 1, 1) := by decide +kernel
theorem d7_hasItem_15 : decode b7_hasItem 15 = .ok (.baload, 1) := by decide +kernel
theorem d7_hasItem_16 : decode b7_hasItem 16 = .ok (.ifCond .eq 7, 3) := by decide +kernel
theorem d7_hasItem_19 : decode b7_hasItem 19 = .ok (.iconst 1, 1) := by decide +kernel
theorem d7_hasItem_20 : decode b7_hasItem 20 = .ok (.goto 4, 3) := by decide +kernel
theorem d7_hasItem_23 : decode b7_hasItem 23 = .ok (.iconst 0, 1) := by decide +kernel
theorem d7_hasItem_24 : decode b7_hasItem 24 = .ok (.ireturn, 1) := by decide +kernel
theorem d7_hasOrder_0 : decode b7_hasOrder 0 = .ok (.iload_n 1, 1) := by decide +kernel
theorem d7_hasOrder_1 : decode b7_hasOrder 1 = .ok (.iconst 0, 1) := by decide +kernel
theorem d7_hasOrder_2 : decode b7_hasOrder 2 = .ok (.aload_n 0, 1) := by decide +kernel
theorem d7_hasOrder_3 : decode b7_hasOrder 3 = .ok (.getfield 97, 3) := by decide +kernel
theorem d7_hasOrder_6 : decode b7_hasOrder 6 = .ok (.iconst 1, 1) := by decide +kernel
theorem d7_hasOrder_7 : decode b7_hasOrder 7 = .ok (.isub, 1) := by decide +kernel
theorem d7_hasOrder_8 : decode b7_hasOrder 8 = .ok (.invokestatic 93, 3) := by decide +kernel
theorem d7_hasOrder_11 : decode b7_hasOrder 11 = .ok (.ireturn, 1) := by decide +kernel
theorem d7_hasBin_0 : decode b7_hasBin 0 = .ok (.iload_n 0, 1) := by decide +kernel
theorem d7_hasBin_1 : decode b7_hasBin 1 = .ok (.iconst 0, 1) := by decide +kernel
theorem d7_hasBin_2 : decode b7_hasBin 2 = .ok (.bipush 63, 2) := by decide +kernel
theorem d7_hasBin_4 : decode b7_hasBin 4 = .ok (.invokestatic 93, 3) := by decide +kernel
theorem d7_hasBin_7 : decode b7_hasBin 7 = .ok (.ireturn, 1) := by decide +kernel
theorem d7_isWatched_0 : decode b7_isWatched 0 = .ok (.aload_n 0, 1) := by decide +kernel
theorem d7_isWatched_1 : decode b7_isWatched 1 = .ok (.getfield 26, 3) := by decide +kernel
theorem d7_isWatched_4 : decode b7_isWatched 4 = .ok (.ifCond .lt 25, 3) := by decide +kernel
theorem d7_isWatched_7 : decode b7_isWatched 7 = .ok (.aload_n 0, 1) := by decide +kernel
theorem d7_isWatched_8 : decode b7_isWatched 8 = .ok (.getfield 30, 3) := by decide +kernel
theorem d7_isWatched_11 : decode b7_isWatched 11 = .ok (.ifCond .lt 18, 3) := by decide +kernel
theorem d7_isWatched_14 : decode b7_isWatched 14 = .ok (.aload_n 0, 1) := by decide +kernel
theorem d7_isWatched_15 : decode b7_isWatched 15 = .ok (.getfield 100, 3) := by decide +kernel
theorem d7_isWatched_18 : decode b7_isWatched 18 = .ok (.aload_n 0, 1) := by decide +kernel
theorem d7_isWatched_19 : decode b7_isWatched 19 = .ok (.getfield 103, 3) := by decide +kernel
theorem d7_isWatched_22 : decode b7_isWatched 22 = .ok (.if_icmp .ge 7, 3) := by decide +kernel
theorem d7_isWatched_25 : decode b7_isWatched 25 = .ok (.iconst 1, 1) := by decide +kernel
theorem d7_isWatched_26 : decode b7_isWatched 26 = .ok (.goto 4, 3) := by decide +kernel
theorem d7_isWatched_29 : decode b7_isWatched 29 = .ok (.iconst 0, 1) := by decide +kernel
theorem d7_isWatched_30 : decode b7_isWatched 30 = .ok (.ireturn, 1) := by decide +kernel
theorem d7_user_0 : decode b7_user 0 = .ok (.iload_n 1, 1) := by decide +kernel
theorem d7_user_1 : decode b7_user 1 = .ok (.iconst 0, 1) := by decide +kernel
theorem d7_user_2 : decode b7_user 2 = .ok (.bipush 15, 2) := by decide +kernel
theorem d7_user_4 : decode b7_user 4 = .ok (.invokestatic 93, 3) := by decide +kernel
theorem d7_user_7 : decode b7_user 7 = .ok (.ifCond .eq 21, 3) := by decide +kernel
theorem d7_user_10 : decode b7_user 10 = .ok (.iload_n 2, 1) := by decide +kernel
theorem d7_user_11 : decode b7_user 11 = .ok (.iconst 0, 1) := by decide +kernel
theorem d7_user_12 : decode b7_user 12 = .ok (.iconst 2, 1) := by decide +kernel
theorem d7_user_13 : decode b7_user 13 = .ok (.invokestatic 93, 3) := by decide +kernel
theorem d7_user_16 : decode b7_user 16 = .ok (.ifCond .eq 12, 3) := by decide +kernel
theorem d7_user_19 : decode b7_user 19 = .ok (.aload_n 0, 1) := by decide +kernel
theorem d7_user_20 : decode b7_user 20 = .ok (.getfield 7, 3) := by decide +kernel
theorem d7_user_23 : decode b7_user 23 = .ok (.iload_n 1, 1) := by decide +kernel
theorem d7_user_24 : decode b7_user 24 = .ok (.baload, 1) := by decide +kernel
theorem d7_user_25 : decode b7_user 25 = .ok (.ifCond .eq 5, 3) := by decide +kernel
theorem d7_user_28 : decode b7_user 28 = .ok (.iconst (-1), 1) := by decide +kernel
theorem d7_user_29 : decode b7_user 29 = .ok (.ireturn, 1) := by decide +kernel
theorem d7_user_30 : decode b7_user 30 = .ok (.aload_n 0, 1) := by decide +kernel
theorem d7_user_31 : decode b7_user 31 = .ok (.getfield 7, 3) := by decide +kernel
theorem d7_user_34 : decode b7_user 34 = .ok (.iload_n 1, 1) := by decide +kernel
theorem d7_user_35 : decode b7_user 35 = .ok (.iconst 1, 1) := by decide +kernel
theorem d7_user_36 : decode b7_user 36 = .ok (.bastore, 1) := by decide +kernel
theorem d7_user_37 : decode b7_user 37 = .ok (.aload_n 0, 1) := by decide +kernel
theorem d7_user_38 : decode b7_user 38 = .ok (.getfield 13, 3) := by decide +kernel
theorem d7_user_41 : decode b7_user 41 = .ok (.iload_n 1, 1) := by decide +kernel
theorem d7_user_42 : decode b7_user 42 = .ok (.iload_n 2, 1) := by decide +kernel
theorem d7_user_43 : decode b7_user 43 = .ok (.iastore, 1) := by decide +kernel
theorem d7_user_44 : decode b7_user 44 = .ok (.aload_n 0, 1) := by decide +kernel
theorem d7_user_45 : decode b7_user 45 = .ok (.getfield 17, 3) := by decide +kernel
theorem d7_user_48 : decode b7_user 48 = .ok (.iload_n 1, 1) := by decide +kernel
theorem d7_user_49 : decode b7_user 49 = .ok (.iload_n 3, 1) := by decide +kernel
theorem d7_user_50 : decode b7_user 50 = .ok (.iastore, 1) := by decide +kernel
theorem d7_user_51 : decode b7_user 51 = .ok (.iconst 0, 1) := by decide +kernel
theorem d7_user_52 : decode b7_user 52 = .ok (.ireturn, 1) := by decide +kernel
theorem d7_item_0 : decode b7_item 0 = .ok (.iload_n 1, 1) := by decide +kernel
theorem d7_item_1 : decode b7_item 1 = .ok (.iconst 0, 1) := by decide +kernel
theorem d7_item_2 : decode b7_item 2 = .ok (.bipush 31, 2) := by decide +kernel
theorem d7_item_4 : decode b7_item 4 = .ok (.invokestatic 93, 3) := by decide +kernel
theorem d7_item_7 : decode b7_item 7 = .ok (.ifCond .eq 23, 3) := by decide +kernel
theorem d7_item_10 : decode b7_item 10 = .ok (.iload_n 3, 1) := by decide +kernel
theorem d7_item_11 : decode b7_item 11 = .ok (.iconst 0, 1) := by decide +kernel
theorem d7_item_12 : decode b7_item 12 = .ok (.sipush 10000, 3) := by decide +kernel
theorem d7_item_15 : decode b7_item 15 = .ok (.invokestatic 93, 3) := by decide +kernel
theorem d7_item_18 : decode b7_item 18 = .ok (.ifCond .eq 12, 3) := by decide +kernel
theorem d7_item_21 : decode b7_item 21 = .ok (.aload_n 0, 1) := by decide +kernel
theorem d7_item_22 : decode b7_item 22 = .ok (.getfield 33, 3) := by decide +kernel
theorem d7_item_25 : decode b7_item 25 = .ok (.iload_n 1, 1) := by decide +kernel
theorem d7_item_26 : decode b7_item 26 = .ok (.baload, 1) := by decide +kernel
theorem d7_item_27 : decode b7_item 27 = .ok (.ifCond .eq 5, 3) := by decide +kernel
theorem d7_item_30 : decode b7_item 30 = .ok (.iconst (-1), 1) := by decide +kernel
theorem d7_item_31 : decode b7_item 31 = .ok (.ireturn, 1) := by decide +kernel
theorem d7_item_32 : decode b7_item 32 = .ok (.aload_n 0, 1) := by decide +kernel
theorem d7_item_33 : decode b7_item 33 = .ok (.getfield 33, 3) := by decide +kernel
theorem d7_item_36 : decode b7_item 36 = .ok (.iload_n 1, 1) := by decide +kernel
theorem d7_item_37 : decode b7_item 37 = .ok (.iconst 1, 1) := by decide +kernel
theorem d7_item_38 : decode b7_item 38 = .ok (.bastore, 1) := by decide +kernel
theorem d7_item_39 : decode b7_item 39 = .ok (.aload_n 0, 1) := by decide +kernel
theorem d7_item_40 : decode b7_item 40 = .ok (.getfield 36, 3) := by decide +kernel
theorem d7_item_43 : decode b7_item 43 = .ok (.iload_n 1, 1) := by decide +kernel
theorem d7_item_44 : decode b7_item 44 = .ok (.iload_n 2, 1) := by decide +kernel
theorem d7_item_45 : decode b7_item 45 = .ok (.bastore, 1) := by decide +kernel
theorem d7_item_46 : decode b7_item 46 = .ok (.aload_n 0, 1) := by decide +kernel
theorem d7_item_47 : decode b7_item 47 = .ok (.getfield 39, 3) := by decide +kernel
theorem d7_item_50 : decode b7_item 50 = .ok (.iload_n 1, 1) := by decide +kernel
theorem d7_item_51 : decode b7_item 51 = .ok (.iload_n 3, 1) := by decide +kernel
theorem d7_item_52 : decode b7_item 52 = .ok (.iastore, 1) := by decide +kernel
theorem d7_item_53 : decode b7_item 53 = .ok (.iconst 0, 1) := by decide +kernel
theorem d7_item_54 : decode b7_item 54 = .ok (.ireturn, 1) := by decide +kernel
theorem d7_tryCode_0 : decode b7_tryCode 0 = .ok (.aload_n 0, 1) := by decide +kernel
theorem d7_tryCode_1 : decode b7_tryCode 1 = .ok (.getfield 100, 3) := by decide +kernel
theorem d7_tryCode_4 : decode b7_tryCode 4 = .ok (.aload_n 0, 1) := by decide +kernel
theorem d7_tryCode_5 : decode b7_tryCode 5 = .ok (.getfield 23, 3) := by decide +kernel
theorem d7_tryCode_8 : decode b7_tryCode 8 = .ok (.iload_n 1, 1) := by decide +kernel
theorem d7_tryCode_9 : decode b7_tryCode 9 = .ok (.iaload, 1) := by decide +kernel
theorem d7_tryCode_10 : decode b7_tryCode 10 = .ok (.if_icmp .ge 6, 3) := by decide +kernel
theorem d7_tryCode_13 : decode b7_tryCode 13 = .ok (.bipush (-10), 2) := by decide +kernel
theorem d7_tryCode_15 : decode b7_tryCode 15 = .ok (.ireturn, 1) := by decide +kernel
theorem d7_tryCode_16 : decode b7_tryCode 16 = .ok (.aload_n 0, 1) := by decide +kernel
theorem d7_tryCode_17 : decode b7_tryCode 17 = .ok (.getfield 17, 3) := by decide +kernel
theorem d7_tryCode_20 : decode b7_tryCode 20 = .ok (.iload_n 1, 1) := by decide +kernel
theorem d7_tryCode_21 : decode b7_tryCode 21 = .ok (.iaload, 1) := by decide +kernel
theorem d7_tryCode_22 : decode b7_tryCode 22 = .ok (.iload_n 2, 1) := by decide +kernel
theorem d7_tryCode_23 : decode b7_tryCode 23 = .ok (.if_icmp .ne 12, 3) := by decide +kernel
theorem d7_tryCode_26 : decode b7_tryCode 26 = .ok (.aload_n 0, 1) := by decide +kernel
theorem d7_tryCode_27 : decode b7_tryCode 27 = .ok (.getfield 20, 3) := by decide +kernel
theorem d7_tryCode_30 : decode b7_tryCode 30 = .ok (.iload_n 1, 1) := by decide +kernel
theorem d7_tryCode_31 : decode b7_tryCode 31 = .ok (.iconst 0, 1) := by decide +kernel
theorem d7_tryCode_32 : decode b7_tryCode 32 = .ok (.iastore, 1) := by decide +kernel
theorem d7_tryCode_33 : decode b7_tryCode 33 = .ok (.iconst 0, 1) := by decide +kernel
theorem d7_tryCode_34 : decode b7_tryCode 34 = .ok (.ireturn, 1) := by decide +kernel
theorem d7_tryCode_35 : decode b7_tryCode 35 = .ok (.aload_n 0, 1) := by decide +kernel
theorem d7_tryCode_36 : decode b7_tryCode 36 = .ok (.getfield 20, 3) := by decide +kernel
theorem d7_tryCode_39 : decode b7_tryCode 39 = .ok (.iload_n 1, 1) := by decide +kernel
theorem d7_tryCode_40 : decode b7_tryCode 40 = .ok (.dup2, 1) := by decide +kernel
theorem d7_tryCode_41 : decode b7_tryCode 41 = .ok (.iaload, 1) := by decide +kernel
theorem d7_tryCode_42 : decode b7_tryCode 42 = .ok (.iconst 1, 1) := by decide +kernel
theorem d7_tryCode_43 : decode b7_tryCode 43 = .ok (.iadd, 1) := by decide +kernel
theorem d7_tryCode_44 : decode b7_tryCode 44 = .ok (.iastore, 1) := by decide +kernel
theorem d7_tryCode_45 : decode b7_tryCode 45 = .ok (.aload_n 0, 1) := by decide +kernel
theorem d7_tryCode_46 : decode b7_tryCode 46 = .ok (.getfield 20, 3) := by decide +kernel
theorem d7_tryCode_49 : decode b7_tryCode 49 = .ok (.iload_n 1, 1) := by decide +kernel
theorem d7_tryCode_50 : decode b7_tryCode 50 = .ok (.iaload, 1) := by decide +kernel
theorem d7_tryCode_51 : decode b7_tryCode 51 = .ok (.iconst 3, 1) := by decide +kernel
theorem d7_tryCode_52 : decode b7_tryCode 52 = .ok (.if_icmp .ne 24, 3) := by decide +kernel
theorem d7_tryCode_55 : decode b7_tryCode 55 = .ok (.aload_n 0, 1) := by decide +kernel
theorem d7_tryCode_56 : decode b7_tryCode 56 = .ok (.getfield 20, 3) := by decide +kernel
theorem d7_tryCode_59 : decode b7_tryCode 59 = .ok (.iload_n 1, 1) := by decide +kernel
theorem d7_tryCode_60 : decode b7_tryCode 60 = .ok (.iconst 0, 1) := by decide +kernel
theorem d7_tryCode_61 : decode b7_tryCode 61 = .ok (.iastore, 1) := by decide +kernel
theorem d7_tryCode_62 : decode b7_tryCode 62 = .ok (.aload_n 0, 1) := by decide +kernel
theorem d7_tryCode_63 : decode b7_tryCode 63 = .ok (.getfield 23, 3) := by decide +kernel
theorem d7_tryCode_66 : decode b7_tryCode 66 = .ok (.iload_n 1, 1) := by decide +kernel
theorem d7_tryCode_67 : decode b7_tryCode 67 = .ok (.aload_n 0, 1) := by decide +kernel
theorem d7_tryCode_68 : decode b7_tryCode 68 = .ok (.getfield 100, 3) := by decide +kernel
theorem d7_tryCode_71 : decode b7_tryCode 71 = .ok (.sipush 300, 3) := by decide +kernel
theorem d7_tryCode_74 : decode b7_tryCode 74 = .ok (.iadd, 1) := by decide +kernel
theorem d7_tryCode_75 : decode b7_tryCode 75 = .ok (.iastore, 1) := by decide +kernel
theorem d7_tryCode_76 : decode b7_tryCode 76 = .ok (.bipush (-9), 2) := by decide +kernel
theorem d7_tryCode_78 : decode b7_tryCode 78 = .ok (.ireturn, 1) := by decide +kernel
theorem d7_login_0 : decode b7_login 0 = .ok (.aload_n 0, 1) := by decide +kernel
theorem d7_login_1 : decode b7_login 1 = .ok (.iload_n 1, 1) := by decide +kernel
theorem d7_login_2 : decode b7_login 2 = .ok (.invokevirtual 106, 3) := by decide +kernel
theorem d7_login_5 : decode b7_login 5 = .ok (.ifCond .ne 7, 3) := by decide +kernel
theorem d7_login_8 : decode b7_login 8 = .ok (.iconst (-1), 1) := by decide +kernel
theorem d7_login_9 : decode b7_login 9 = .ok (.goto 21, 3) := by decide +kernel
theorem d7_login_12 : decode b7_login 12 = .ok (.aload_n 0, 1) := by decide +kernel
theorem d7_login_13 : decode b7_login 13 = .ok (.getfield 81, 3) := by decide +kernel
theorem d7_login_16 : decode b7_login 16 = .ok (.ifCond .lt 8, 3) := by decide +kernel
theorem d7_login_19 : decode b7_login 19 = .ok (.bipush (-4), 2) := by decide +kernel
theorem d7_login_21 : decode b7_login 21 = .ok (.goto 9, 3) := by decide +kernel
theorem d7_login_24 : decode b7_login 24 = .ok (.aload_n 0, 1) := by decide +kernel
theorem d7_login_25 : decode b7_login 25 = .ok (.iload_n 1, 1) := by decide +kernel
theorem d7_login_26 : decode b7_login 26 = .ok (.iload_n 2, 1) := by decide +kernel
theorem d7_login_27 : decode b7_login 27 = .ok (.invokevirtual 110, 3) := by decide +kernel
theorem d7_login_30 : decode b7_login 30 = .ok (.istore_n 3, 1) := by decide +kernel
theorem d7_login_31 : decode b7_login 31 = .ok (.iload_n 3, 1) := by decide +kernel
theorem d7_login_32 : decode b7_login 32 = .ok (.ifCond .ge 5, 3) := by decide +kernel
theorem d7_login_35 : decode b7_login 35 = .ok (.iload_n 3, 1) := by decide +kernel
theorem d7_login_36 : decode b7_login 36 = .ok (.ireturn, 1) := by decide +kernel
theorem d7_login_37 : decode b7_login 37 = .ok (.aload_n 0, 1) := by decide +kernel
theorem d7_login_38 : decode b7_login 38 = .ok (.iload_n 1, 1) := by decide +kernel
theorem d7_login_39 : decode b7_login 39 = .ok (.putfield 26, 3) := by decide +kernel
theorem d7_login_42 : decode b7_login 42 = .ok (.aload_n 0, 1) := by decide +kernel
theorem d7_login_43 : decode b7_login 43 = .ok (.aload_n 0, 1) := by decide +kernel
theorem d7_login_44 : decode b7_login 44 = .ok (.getfield 100, 3) := by decide +kernel
theorem d7_login_47 : decode b7_login 47 = .ok (.putfield 114, 3) := by decide +kernel
theorem d7_login_50 : decode b7_login 50 = .ok (.aload_n 0, 1) := by decide +kernel
theorem d7_login_51 : decode b7_login 51 = .ok (.iconst (-1), 1) := by decide +kernel
theorem d7_login_52 : decode b7_login 52 = .ok (.putfield 30, 3) := by decide +kernel
theorem d7_login_55 : decode b7_login 55 = .ok (.iconst 0, 1) := by decide +kernel
theorem d7_login_56 : decode b7_login 56 = .ok (.ireturn, 1) := by decide +kernel
theorem d7_logout_0 : decode b7_logout 0 = .ok (.aload_n 0, 1) := by decide +kernel
theorem d7_logout_1 : decode b7_logout 1 = .ok (.getfield 26, 3) := by decide +kernel
theorem d7_logout_4 : decode b7_logout 4 = .ok (.ifCond .lt 10, 3) := by decide +kernel
theorem d7_logout_7 : decode b7_logout 7 = .ok (.aload_n 0, 1) := by decide +kernel
theorem d7_logout_8 : decode b7_logout 8 = .ok (.getfield 81, 3) := by decide +kernel
theorem d7_logout_11 : decode b7_logout 11 = .ok (.ifCond .lt 18, 3) := by decide +kernel
theorem d7_logout_14 : decode b7_logout 14 = .ok (.aload_n 0, 1) := by decide +kernel
theorem d7_logout_15 : decode b7_logout 15 = .ok (.getfield 26, 3) := by decide +kernel
theorem d7_logout_18 : decode b7_logout 18 = .ok (.ifCond .ge 8, 3) := by decide +kernel
theorem d7_logout_21 : decode b7_logout 21 = .ok (.bipush (-2), 2) := by decide +kernel
theorem d7_logout_23 : decode b7_logout 23 = .ok (.goto 5, 3) := by decide +kernel
theorem d7_logout_26 : decode b7_logout 26 = .ok (.bipush (-4), 2) := by decide +kernel
theorem d7_logout_28 : decode b7_logout 28 = .ok (.ireturn, 1) := by decide +kernel
theorem d7_logout_29 : decode b7_logout 29 = .ok (.aload_n 0, 1) := by decide +kernel
theorem d7_logout_30 : decode b7_logout 30 = .ok (.getfield 26, 3) := by decide +kernel
theorem d7_logout_33 : decode b7_logout 33 = .ok (.istore_n 1, 1) := by decide +kernel
theorem d7_logout_34 : decode b7_logout 34 = .ok (.aload_n 0, 1) := by decide +kernel
theorem d7_logout_35 : decode b7_logout 35 = .ok (.iconst (-1), 1) := by decide +kernel
theorem d7_logout_36 : decode b7_logout 36 = .ok (.putfield 26, 3) := by decide +kernel
theorem d7_logout_39 : decode b7_logout 39 = .ok (.aload_n 0, 1) := by decide +kernel
theorem d7_logout_40 : decode b7_logout 40 = .ok (.iconst (-1), 1) := by decide +kernel
theorem d7_logout_41 : decode b7_logout 41 = .ok (.putfield 30, 3) := by decide +kernel
theorem d7_logout_44 : decode b7_logout 44 = .ok (.iload_n 1, 1) := by decide +kernel
theorem d7_logout_45 : decode b7_logout 45 = .ok (.ireturn, 1) := by decide +kernel
theorem d7_witness_0 : decode b7_witness 0 = .ok (.aload_n 0, 1) := by decide +kernel
theorem d7_witness_1 : decode b7_witness 1 = .ok (.iload_n 1, 1) := by decide +kernel
theorem d7_witness_2 : decode b7_witness 2 = .ok (.invokevirtual 106, 3) := by decide +kernel
theorem d7_witness_5 : decode b7_witness 5 = .ok (.ifCond .eq 11, 3) := by decide +kernel
theorem d7_witness_8 : decode b7_witness 8 = .ok (.iload_n 1, 1) := by decide +kernel
theorem d7_witness_9 : decode b7_witness 9 = .ok (.aload_n 0, 1) := by decide +kernel
theorem d7_witness_10 : decode b7_witness 10 = .ok (.getfield 26, 3) := by decide +kernel
theorem d7_witness_13 : decode b7_witness 13 = .ok (.if_icmp .ne 7, 3) := by decide +kernel
theorem d7_witness_16 : decode b7_witness 16 = .ok (.iconst (-1), 1) := by decide +kernel
theorem d7_witness_17 : decode b7_witness 17 = .ok (.goto 21, 3) := by decide +kernel
theorem d7_witness_20 : decode b7_witness 20 = .ok (.aload_n 0, 1) := by decide +kernel
theorem d7_witness_21 : decode b7_witness 21 = .ok (.getfield 26, 3) := by decide +kernel
theorem d7_witness_24 : decode b7_witness 24 = .ok (.ifCond .ge 8, 3) := by decide +kernel
theorem d7_witness_27 : decode b7_witness 27 = .ok (.bipush (-2), 2) := by decide +kernel
theorem d7_witness_29 : decode b7_witness 29 = .ok (.goto 9, 3) := by decide +kernel
theorem d7_witness_32 : decode b7_witness 32 = .ok (.aload_n 0, 1) := by decide +kernel
theorem d7_witness_33 : decode b7_witness 33 = .ok (.iload_n 1, 1) := by decide +kernel
theorem d7_witness_34 : decode b7_witness 34 = .ok (.iload_n 2, 1) := by decide +kernel
theorem d7_witness_35 : decode b7_witness 35 = .ok (.invokevirtual 110, 3) := by decide +kernel
theorem d7_witness_38 : decode b7_witness 38 = .ok (.istore_n 3, 1) := by decide +kernel
theorem d7_witness_39 : decode b7_witness 39 = .ok (.iload_n 3, 1) := by decide +kernel
theorem d7_witness_40 : decode b7_witness 40 = .ok (.ifCond .ge 5, 3) := by decide +kernel
theorem d7_witness_43 : decode b7_witness 43 = .ok (.iload_n 3, 1) := by decide +kernel
theorem d7_witness_44 : decode b7_witness 44 = .ok (.ireturn, 1) := by decide +kernel
theorem d7_witness_45 : decode b7_witness 45 = .ok (.aload_n 0, 1) := by decide +kernel
theorem d7_witness_46 : decode b7_witness 46 = .ok (.iload_n 1, 1) := by decide +kernel
theorem d7_witness_47 : decode b7_witness 47 = .ok (.putfield 30, 3) := by decide +kernel
theorem d7_witness_50 : decode b7_witness 50 = .ok (.aload_n 0, 1) := by decide +kernel
theorem d7_witness_51 : decode b7_witness 51 = .ok (.aload_n 0, 1) := by decide +kernel
theorem d7_witness_52 : decode b7_witness 52 = .ok (.getfield 100, 3) := by decide +kernel
theorem d7_witness_55 : decode b7_witness 55 = .ok (.bipush 120, 2) := by decide +kernel
theorem d7_witness_57 : decode b7_witness 57 = .ok (.iadd, 1) := by decide +kernel
theorem d7_witness_58 : decode b7_witness 58 = .ok (.putfield 103, 3) := by decide +kernel
theorem d7_witness_61 : decode b7_witness 61 = .ok (.aload_n 0, 1) := by decide +kernel
theorem d7_witness_62 : decode b7_witness 62 = .ok (.aload_n 0, 1) := by decide +kernel
theorem d7_witness_63 : decode b7_witness 63 = .ok (.getfield 100, 3) := by decide +kernel
theorem d7_witness_66 : decode b7_witness 66 = .ok (.putfield 114, 3) := by decide +kernel
theorem d7_witness_69 : decode b7_witness 69 = .ok (.aload_n 0, 1) := by decide +kernel
theorem d7_witness_70 : decode b7_witness 70 = .ok (.getfield 103, 3) := by decide +kernel
theorem d7_witness_73 : decode b7_witness 73 = .ok (.ireturn, 1) := by decide +kernel
theorem d7_tick_0 : decode b7_tick 0 = .ok (.iload_n 1, 1) := by decide +kernel
theorem d7_tick_1 : decode b7_tick 1 = .ok (.iconst 1, 1) := by decide +kernel
theorem d7_tick_2 : decode b7_tick 2 = .ok (.sipush 1000, 3) := by decide +kernel
theorem d7_tick_5 : decode b7_tick 5 = .ok (.invokestatic 93, 3) := by decide +kernel
theorem d7_tick_8 : decode b7_tick 8 = .ok (.ifCond .ne 5, 3) := by decide +kernel
theorem d7_tick_11 : decode b7_tick 11 = .ok (.iconst (-1), 1) := by decide +kernel
theorem d7_tick_12 : decode b7_tick 12 = .ok (.ireturn, 1) := by decide +kernel
theorem d7_tick_13 : decode b7_tick 13 = .ok (.aload_n 0, 1) := by decide +kernel
theorem d7_tick_14 : decode b7_tick 14 = .ok (.dup, 1) := by decide +kernel
theorem d7_tick_15 : decode b7_tick 15 = .ok (.getfield 100, 3) := by decide +kernel
theorem d7_tick_18 : decode b7_tick 18 = .ok (.iload_n 1, 1) := by decide +kernel
theorem d7_tick_19 : decode b7_tick 19 = .ok (.iadd, 1) := by decide +kernel
theorem d7_tick_20 : decode b7_tick 20 = .ok (.putfield 100, 3) := by decide +kernel
theorem d7_tick_23 : decode b7_tick 23 = .ok (.aload_n 0, 1) := by decide +kernel
theorem d7_tick_24 : decode b7_tick 24 = .ok (.getfield 26, 3) := by decide +kernel
theorem d7_tick_27 : decode b7_tick 27 = .ok (.ifCond .lt 34, 3) := by decide +kernel
theorem d7_tick_30 : decode b7_tick 30 = .ok (.aload_n 0, 1) := by decide +kernel
theorem d7_tick_31 : decode b7_tick 31 = .ok (.getfield 81, 3) := by decide +kernel
theorem d7_tick_34 : decode b7_tick 34 = .ok (.ifCond .ge 27, 3) := by decide +kernel
theorem d7_tick_37 : decode b7_tick 37 = .ok (.aload_n 0, 1) := by decide +kernel
theorem d7_tick_38 : decode b7_tick 38 = .ok (.getfield 100, 3) := by decide +kernel
theorem d7_tick_41 : decode b7_tick 41 = .ok (.aload_n 0, 1) := by decide +kernel
theorem d7_tick_42 : decode b7_tick 42 = .ok (.getfield 114, 3) := by decide +kernel
theorem d7_tick_45 : decode b7_tick 45 = .ok (.isub, 1) := by decide +kernel
theorem d7_tick_46 : decode b7_tick 46 = .ok (.bipush 120, 2) := by decide +kernel
theorem d7_tick_48 : decode b7_tick 48 = .ok (.if_icmp .lt 13, 3) := by decide +kernel
theorem d7_tick_51 : decode b7_tick 51 = .ok (.aload_n 0, 1) := by decide +kernel
theorem d7_tick_52 : decode b7_tick 52 = .ok (.iconst (-1), 1) := by decide +kernel
theorem d7_tick_53 : decode b7_tick 53 = .ok (.putfield 26, 3) := by decide +kernel
theorem d7_tick_56 : decode b7_tick 56 = .ok (.aload_n 0, 1) := by decide +kernel
theorem d7_tick_57 : decode b7_tick 57 = .ok (.iconst (-1), 1) := by decide +kernel
theorem d7_tick_58 : decode b7_tick 58 = .ok (.putfield 30, 3) := by decide +kernel
theorem d7_tick_61 : decode b7_tick 61 = .ok (.aload_n 0, 1) := by decide +kernel
theorem d7_tick_62 : decode b7_tick 62 = .ok (.getfield 100, 3) := by decide +kernel
theorem d7_tick_65 : decode b7_tick 65 = .ok (.ireturn, 1) := by decide +kernel
theorem d7_order_0 : decode b7_order 0 = .ok (.aload_n 0, 1) := by decide +kernel
theorem d7_order_1 : decode b7_order 1 = .ok (.iload_n 1, 1) := by decide +kernel
theorem d7_order_2 : decode b7_order 2 = .ok (.invokevirtual 117, 3) := by decide +kernel
theorem d7_order_5 : decode b7_order 5 = .ok (.ifCond .eq 37, 3) := by decide +kernel
theorem d7_order_8 : decode b7_order 8 = .ok (.iload_n 2, 1) := by decide +kernel
theorem d7_order_9 : decode b7_order 9 = .ok (.iconst 1, 1) := by decide +kernel
theorem d7_order_10 : decode b7_order 10 = .ok (.sipush 1000, 3) := by decide +kernel
theorem d7_order_13 : decode b7_order 13 = .ok (.invokestatic 93, 3) := by decide +kernel
theorem d7_order_16 : decode b7_order 16 = .ok (.ifCond .eq 26, 3) := by decide +kernel
theorem d7_order_19 : decode b7_order 19 = .ok (.iload_n 3, 1) := by decide +kernel
theorem d7_order_20 : decode b7_order 20 = .ok (.iconst 0, 1) := by decide +kernel
theorem d7_order_21 : decode b7_order 21 = .ok (.ldc 120, 2) := by decide +kernel
theorem d7_order_23 : decode b7_order 23 = .ok (.invokestatic 93, 3) := by decide +kernel
theorem d7_order_26 : decode b7_order 26 = .ok (.ifCond .eq 16, 3) := by decide +kernel
theorem d7_order_29 : decode b7_order 29 = .ok (.iload 4, 2) := by decide +kernel
theorem d7_order_31 : decode b7_order 31 = .ok (.aload_n 0, 1) := by decide +kernel
theorem d7_order_32 : decode b7_order 32 = .ok (.getfield 100, 3) := by decide +kernel
theorem d7_order_35 : decode b7_order 35 = .ok (.if_icmp .le 7, 3) := by decide +kernel
theorem d7_order_38 : decode b7_order 38 = .ok (.iconst 1, 1) := by decide +kernel
theorem d7_order_39 : decode b7_order 39 = .ok (.goto 4, 3) := by decide +kernel
theorem d7_order_42 : decode b7_order 42 = .ok (.iconst 0, 1) := by decide +kernel
theorem d7_order_43 : decode b7_order 43 = .ok (.istore 5, 2) := by decide +kernel
theorem d7_order_45 : decode b7_order 45 = .ok (.iload 5, 2) := by decide +kernel
theorem d7_order_47 : decode b7_order 47 = .ok (.ifCond .ne 7, 3) := by decide +kernel
theorem d7_order_50 : decode b7_order 50 = .ok (.iconst (-1), 1) := by decide +kernel
theorem d7_order_51 : decode b7_order 51 = .ok (.goto 48, 3) := by decide +kernel
theorem d7_order_54 : decode b7_order 54 = .ok (.aload_n 0, 1) := by decide +kernel
theorem d7_order_55 : decode b7_order 55 = .ok (.getfield 26, 3) := by decide +kernel
theorem d7_order_58 : decode b7_order 58 = .ok (.ifCond .ge 8, 3) := by decide +kernel
theorem d7_order_61 : decode b7_order 61 = .ok (.bipush (-2), 2) := by decide +kernel
theorem d7_order_63 : decode b7_order 63 = .ok (.goto 36, 3) := by decide +kernel
theorem d7_order_66 : decode b7_order 66 = .ok (.aload_n 0, 1) := by decide +kernel
theorem d7_order_67 : decode b7_order 67 = .ok (.getfield 13, 3) := by decide +kernel
theorem d7_order_70 : decode b7_order 70 = .ok (.aload_n 0, 1) := by decide +kernel
theorem d7_order_71 : decode b7_order 71 = .ok (.getfield 26, 3) := by decide +kernel
theorem d7_order_74 : decode b7_order 74 = .ok (.iaload, 1) := by decide +kernel
theorem d7_order_75 : decode b7_order 75 = .ok (.iconst 1, 1) := by decide +kernel
theorem d7_order_76 : decode b7_order 76 = .ok (.if_icmp .eq 8, 3) := by decide +kernel
theorem d7_order_79 : decode b7_order 79 = .ok (.bipush (-3), 2) := by decide +kernel
theorem d7_order_81 : decode b7_order 81 = .ok (.goto 18, 3) := by decide +kernel
theorem d7_order_84 : decode b7_order 84 = .ok (.aload_n 0, 1) := by decide +kernel
theorem d7_order_85 : decode b7_order 85 = .ok (.getfield 97, 3) := by decide +kernel
theorem d7_order_88 : decode b7_order 88 = .ok (.bipush 60, 2) := by decide +kernel
theorem d7_order_90 : decode b7_order 90 = .ok (.if_icmp .ne 8, 3) := by decide +kernel
theorem d7_order_93 : decode b7_order 93 = .ok (.bipush (-8), 2) := by decide +kernel
theorem d7_order_95 : decode b7_order 95 = .ok (.goto 4, 3) := by decide +kernel
theorem d7_order_98 : decode b7_order 98 = .ok (.iconst 0, 1) := by decide +kernel
theorem d7_order_99 : decode b7_order 99 = .ok (.istore 6, 2) := by decide +kernel
theorem d7_order_101 : decode b7_order 101 = .ok (.iload 6, 2) := by decide +kernel
theorem d7_order_103 : decode b7_order 103 = .ok (.ifCond .ge 6, 3) := by decide +kernel
theorem d7_order_106 : decode b7_order 106 = .ok (.iload 6, 2) := by decide +kernel
theorem d7_order_108 : decode b7_order 108 = .ok (.ireturn, 1) := by decide +kernel
theorem d7_order_109 : decode b7_order 109 = .ok (.aload_n 0, 1) := by decide +kernel
theorem d7_order_110 : decode b7_order 110 = .ok (.getfield 63, 3) := by decide +kernel
theorem d7_order_113 : decode b7_order 113 = .ok (.aload_n 0, 1) := by decide +kernel
theorem d7_order_114 : decode b7_order 114 = .ok (.getfield 97, 3) := by decide +kernel
theorem d7_order_117 : decode b7_order 117 = .ok (.iload_n 1, 1) := by decide +kernel
theorem d7_order_118 : decode b7_order 118 = .ok (.iastore, 1) := by decide +kernel
theorem d7_order_119 : decode b7_order 119 = .ok (.aload_n 0, 1) := by decide +kernel
theorem d7_order_120 : decode b7_order 120 = .ok (.getfield 66, 3) := by decide +kernel
theorem d7_order_123 : decode b7_order 123 = .ok (.aload_n 0, 1) := by decide +kernel
theorem d7_order_124 : decode b7_order 124 = .ok (.getfield 97, 3) := by decide +kernel
theorem d7_order_127 : decode b7_order 127 = .ok (.iload_n 2, 1) := by decide +kernel
theorem d7_order_128 : decode b7_order 128 = .ok (.iastore, 1) := by decide +kernel
theorem d7_order_129 : decode b7_order 129 = .ok (.aload_n 0, 1) := by decide +kernel
theorem d7_order_130 : decode b7_order 130 = .ok (.getfield 69, 3) := by decide +kernel
theorem d7_order_133 : decode b7_order 133 = .ok (.aload_n 0, 1) := by decide +kernel
theorem d7_order_134 : decode b7_order 134 = .ok (.getfield 97, 3) := by decide +kernel
theorem d7_order_137 : decode b7_order 137 = .ok (.iload_n 3, 1) := by decide +kernel
theorem d7_order_138 : decode b7_order 138 = .ok (.iastore, 1) := by decide +kernel
theorem d7_order_139 : decode b7_order 139 = .ok (.aload_n 0, 1) := by decide +kernel
theorem d7_order_140 : decode b7_order 140 = .ok (.getfield 72, 3) := by decide +kernel
theorem d7_order_143 : decode b7_order 143 = .ok (.aload_n 0, 1) := by decide +kernel
theorem d7_order_144 : decode b7_order 144 = .ok (.getfield 97, 3) := by decide +kernel
theorem d7_order_147 : decode b7_order 147 = .ok (.iload 4, 2) := by decide +kernel
theorem d7_order_149 : decode b7_order 149 = .ok (.iastore, 1) := by decide +kernel
theorem d7_order_150 : decode b7_order 150 = .ok (.aload_n 0, 1) := by decide +kernel
theorem d7_order_151 : decode b7_order 151 = .ok (.getfield 78, 3) := by decide +kernel
theorem d7_order_154 : decode b7_order 154 = .ok (.aload_n 0, 1) := by decide +kernel
theorem d7_order_155 : decode b7_order 155 = .ok (.getfield 97, 3) := by decide +kernel
theorem d7_order_158 : decode b7_order 158 = .ok (.iconst (-1), 1) := by decide +kernel
theorem d7_order_159 : decode b7_order 159 = .ok (.iastore, 1) := by decide +kernel
theorem d7_order_160 : decode b7_order 160 = .ok (.aload_n 0, 1) := by decide +kernel
theorem d7_order_161 : decode b7_order 161 = .ok (.dup, 1) := by decide +kernel
theorem d7_order_162 : decode b7_order 162 = .ok (.getfield 97, 3) := by decide +kernel
theorem d7_order_165 : decode b7_order 165 = .ok (.iconst 1, 1) := by decide +kernel
theorem d7_order_166 : decode b7_order 166 = .ok (.iadd, 1) := by decide +kernel
theorem d7_order_167 : decode b7_order 167 = .ok (.putfield 97, 3) := by decide +kernel
theorem d7_order_170 : decode b7_order 170 = .ok (.aload_n 0, 1) := by decide +kernel
theorem d7_order_171 : decode b7_order 171 = .ok (.aload_n 0, 1) := by decide +kernel
theorem d7_order_172 : decode b7_order 172 = .ok (.getfield 100, 3) := by decide +kernel
theorem d7_order_175 : decode b7_order 175 = .ok (.putfield 114, 3) := by decide +kernel
theorem d7_order_178 : decode b7_order 178 = .ok (.aload_n 0, 1) := by decide +kernel
theorem d7_order_179 : decode b7_order 179 = .ok (.getfield 97, 3) := by decide +kernel
theorem d7_order_182 : decode b7_order 182 = .ok (.iconst 1, 1) := by decide +kernel
theorem d7_order_183 : decode b7_order 183 = .ok (.isub, 1) := by decide +kernel
theorem d7_order_184 : decode b7_order 184 = .ok (.ireturn, 1) := by decide +kernel
theorem d7_isOpen_0 : decode b7_isOpen 0 = .ok (.aload_n 0, 1) := by decide +kernel
theorem d7_isOpen_1 : decode b7_isOpen 1 = .ok (.getfield 100, 3) := by decide +kernel
theorem d7_isOpen_4 : decode b7_isOpen 4 = .ok (.aload_n 0, 1) := by decide +kernel
theorem d7_isOpen_5 : decode b7_isOpen 5 = .ok (.getfield 72, 3) := by decide +kernel
theorem d7_isOpen_8 : decode b7_isOpen 8 = .ok (.iload_n 1, 1) := by decide +kernel
theorem d7_isOpen_9 : decode b7_isOpen 9 = .ok (.iaload, 1) := by decide +kernel
theorem d7_isOpen_10 : decode b7_isOpen 10 = .ok (.if_icmp .ge 25, 3) := by decide +kernel
theorem d7_isOpen_13 : decode b7_isOpen 13 = .ok (.aload_n 0, 1) := by decide +kernel
theorem d7_isOpen_14 : decode b7_isOpen 14 = .ok (.getfield 66, 3) := by decide +kernel
theorem d7_isOpen_17 : decode b7_isOpen 17 = .ok (.iload_n 1, 1) := by decide +kernel
theorem d7_isOpen_18 : decode b7_isOpen 18 = .ok (.iaload, 1) := by decide +kernel
theorem d7_isOpen_19 : decode b7_isOpen 19 = .ok (.ifCond .le 16, 3) := by decide +kernel
theorem d7_isOpen_22 : decode b7_isOpen 22 = .ok (.aload_n 0, 1) := by decide +kernel
theorem d7_isOpen_23 : decode b7_isOpen 23 = .ok (.getfield 75, 3) := by decide +kernel
theorem d7_isOpen_26 : decode b7_isOpen 26 = .ok (.iload_n 1, 1) := by decide +kernel
theorem d7_isOpen_27 : decode b7_isOpen 27 = .ok (.baload, 1) := by decide +kernel
theorem d7_isOpen_28 : decode b7_isOpen 28 = .ok (.ifCond .ne 7, 3) := by decide +kernel
theorem d7_isOpen_31 : decode b7_isOpen 31 = .ok (.iconst 1, 1) := by decide +kernel
theorem d7_isOpen_32 : decode b7_isOpen 32 = .ok (.goto 4, 3) := by decide +kernel
theorem d7_isOpen_35 : decode b7_isOpen 35 = .ok (.iconst 0, 1) := by decide +kernel
theorem d7_isOpen_36 : decode b7_isOpen 36 = .ok (.ireturn, 1) := by decide +kernel
theorem d7_cancel_0 : decode b7_cancel 0 = .ok (.aload_n 0, 1) := by decide +kernel
theorem d7_cancel_1 : decode b7_cancel 1 = .ok (.iload_n 1, 1) := by decide +kernel
theorem d7_cancel_2 : decode b7_cancel 2 = .ok (.invokevirtual 121, 3) := by decide +kernel
theorem d7_cancel_5 : decode b7_cancel 5 = .ok (.ifCond .ne 7, 3) := by decide +kernel
theorem d7_cancel_8 : decode b7_cancel 8 = .ok (.iconst (-1), 1) := by decide +kernel
theorem d7_cancel_9 : decode b7_cancel 9 = .ok (.goto 67, 3) := by decide +kernel
theorem d7_cancel_12 : decode b7_cancel 12 = .ok (.aload_n 0, 1) := by decide +kernel
theorem d7_cancel_13 : decode b7_cancel 13 = .ok (.getfield 26, 3) := by decide +kernel
theorem d7_cancel_16 : decode b7_cancel 16 = .ok (.ifCond .ge 8, 3) := by decide +kernel
theorem d7_cancel_19 : decode b7_cancel 19 = .ok (.bipush (-2), 2) := by decide +kernel
theorem d7_cancel_21 : decode b7_cancel 21 = .ok (.goto 55, 3) := by decide +kernel
theorem d7_cancel_24 : decode b7_cancel 24 = .ok (.aload_n 0, 1) := by decide +kernel
theorem d7_cancel_25 : decode b7_cancel 25 = .ok (.getfield 13, 3) := by decide +kernel
theorem d7_cancel_28 : decode b7_cancel 28 = .ok (.aload_n 0, 1) := by decide +kernel
theorem d7_cancel_29 : decode b7_cancel 29 = .ok (.getfield 26, 3) := by decide +kernel
theorem d7_cancel_32 : decode b7_cancel 32 = .ok (.iaload, 1) := by decide +kernel
theorem d7_cancel_33 : decode b7_cancel 33 = .ok (.iconst 1, 1) := by decide +kernel
theorem d7_cancel_34 : decode b7_cancel 34 = .ok (.if_icmp .eq 8, 3) := by decide +kernel
theorem d7_cancel_37 : decode b7_cancel 37 = .ok (.bipush (-3), 2) := by decide +kernel
theorem d7_cancel_39 : decode b7_cancel 39 = .ok (.goto 37, 3) := by decide +kernel
theorem d7_cancel_42 : decode b7_cancel 42 = .ok (.aload_n 0, 1) := by decide +kernel
theorem d7_cancel_43 : decode b7_cancel 43 = .ok (.getfield 81, 3) := by decide +kernel
theorem d7_cancel_46 : decode b7_cancel 46 = .ok (.ifCond .ne 16, 3) := by decide +kernel
theorem d7_cancel_49 : decode b7_cancel 49 = .ok (.aload_n 0, 1) := by decide +kernel
theorem d7_cancel_50 : decode b7_cancel 50 = .ok (.getfield 124, 3) := by decide +kernel
theorem d7_cancel_53 : decode b7_cancel 53 = .ok (.iload_n 1, 1) := by decide +kernel
theorem d7_cancel_54 : decode b7_cancel 54 = .ok (.if_icmp .ne 8, 3) := by decide +kernel
theorem d7_cancel_57 : decode b7_cancel 57 = .ok (.bipush (-4), 2) := by decide +kernel
theorem d7_cancel_59 : decode b7_cancel 59 = .ok (.goto 17, 3) := by decide +kernel
theorem d7_cancel_62 : decode b7_cancel 62 = .ok (.aload_n 0, 1) := by decide +kernel
theorem d7_cancel_63 : decode b7_cancel 63 = .ok (.iload_n 1, 1) := by decide +kernel
theorem d7_cancel_64 : decode b7_cancel 64 = .ok (.invokevirtual 127, 3) := by decide +kernel
theorem d7_cancel_67 : decode b7_cancel 67 = .ok (.ifCond .ne 8, 3) := by decide +kernel
theorem d7_cancel_70 : decode b7_cancel 70 = .ok (.bipush (-6), 2) := by decide +kernel
theorem d7_cancel_72 : decode b7_cancel 72 = .ok (.goto 4, 3) := by decide +kernel
theorem d7_cancel_75 : decode b7_cancel 75 = .ok (.iconst 0, 1) := by decide +kernel
theorem d7_cancel_76 : decode b7_cancel 76 = .ok (.istore_n 2, 1) := by decide +kernel
theorem d7_cancel_77 : decode b7_cancel 77 = .ok (.iload_n 2, 1) := by decide +kernel
theorem d7_cancel_78 : decode b7_cancel 78 = .ok (.ifCond .ge 5, 3) := by decide +kernel
theorem d7_cancel_81 : decode b7_cancel 81 = .ok (.iload_n 2, 1) := by decide +kernel
theorem d7_cancel_82 : decode b7_cancel 82 = .ok (.ireturn, 1) := by decide +kernel
theorem d7_cancel_83 : decode b7_cancel 83 = .ok (.aload_n 0, 1) := by decide +kernel
theorem d7_cancel_84 : decode b7_cancel 84 = .ok (.getfield 75, 3) := by decide +kernel
theorem d7_cancel_87 : decode b7_cancel 87 = .ok (.iload_n 1, 1) := by decide +kernel
theorem d7_cancel_88 : decode b7_cancel 88 = .ok (.iconst 1, 1) := by decide +kernel
theorem d7_cancel_89 : decode b7_cancel 89 = .ok (.bastore, 1) := by decide +kernel
theorem d7_cancel_90 : decode b7_cancel 90 = .ok (.aload_n 0, 1) := by decide +kernel
theorem d7_cancel_91 : decode b7_cancel 91 = .ok (.aload_n 0, 1) := by decide +kernel
theorem d7_cancel_92 : decode b7_cancel 92 = .ok (.getfield 100, 3) := by decide +kernel
theorem d7_cancel_95 : decode b7_cancel 95 = .ok (.putfield 114, 3) := by decide +kernel
theorem d7_cancel_98 : decode b7_cancel 98 = .ok (.aload_n 0, 1) := by decide +kernel
theorem d7_cancel_99 : decode b7_cancel 99 = .ok (.getfield 66, 3) := by decide +kernel
theorem d7_cancel_102 : decode b7_cancel 102 = .ok (.iload_n 1, 1) := by decide +kernel
theorem d7_cancel_103 : decode b7_cancel 103 = .ok (.iaload, 1) := by decide +kernel
theorem d7_cancel_104 : decode b7_cancel 104 = .ok (.ireturn, 1) := by decide +kernel
theorem d7_bookOf_0 : decode b7_bookOf 0 = .ok (.iconst 0, 1) := by decide +kernel
theorem d7_bookOf_1 : decode b7_bookOf 1 = .ok (.istore_n 2, 1) := by decide +kernel
theorem d7_bookOf_2 : decode b7_bookOf 2 = .ok (.iconst 0, 1) := by decide +kernel
theorem d7_bookOf_3 : decode b7_bookOf 3 = .ok (.istore_n 3, 1) := by decide +kernel
theorem d7_bookOf_4 : decode b7_bookOf 4 = .ok (.iload_n 3, 1) := by decide +kernel
theorem d7_bookOf_5 : decode b7_bookOf 5 = .ok (.aload_n 0, 1) := by decide +kernel
theorem d7_bookOf_6 : decode b7_bookOf 6 = .ok (.getfield 48, 3) := by decide +kernel
theorem d7_bookOf_9 : decode b7_bookOf 9 = .ok (.iload_n 1, 1) := by decide +kernel
theorem d7_bookOf_10 : decode b7_bookOf 10 = .ok (.iaload, 1) := by decide +kernel
theorem d7_bookOf_11 : decode b7_bookOf 11 = .ok (.if_icmp .ge 23, 3) := by decide +kernel
theorem d7_bookOf_14 : decode b7_bookOf 14 = .ok (.iload_n 2, 1) := by decide +kernel
theorem d7_bookOf_15 : decode b7_bookOf 15 = .ok (.aload_n 0, 1) := by decide +kernel
theorem d7_bookOf_16 : decode b7_bookOf 16 = .ok (.getfield 51, 3) := by decide +kernel
theorem d7_bookOf_19 : decode b7_bookOf 19 = .ok (.bipush 6, 2) := by decide +kernel
theorem d7_bookOf_21 : decode b7_bookOf 21 = .ok (.iload_n 1, 1) := by decide +kernel
theorem d7_bookOf_22 : decode b7_bookOf 22 = .ok (.imul, 1) := by decide +kernel
theorem d7_bookOf_23 : decode b7_bookOf 23 = .ok (.iload_n 3, 1) := by decide +kernel
theorem d7_bookOf_24 : decode b7_bookOf 24 = .ok (.iadd, 1) := by decide +kernel
theorem d7_bookOf_25 : decode b7_bookOf 25 = .ok (.iaload, 1) := by decide +kernel
theorem d7_bookOf_26 : decode b7_bookOf 26 = .ok (.iadd, 1) := by decide +kernel
theorem d7_bookOf_27 : decode b7_bookOf 27 = .ok (.istore_n 2, 1) := by decide +kernel
theorem d7_bookOf_28 : decode b7_bookOf 28 = .ok (.iinc 3 1, 3) := by decide +kernel
theorem d7_bookOf_31 : decode b7_bookOf 31 = .ok (.goto (-27), 3) := by decide +kernel
theorem d7_bookOf_34 : decode b7_bookOf 34 = .ok (.iload_n 2, 1) := by decide +kernel
theorem d7_bookOf_35 : decode b7_bookOf 35 = .ok (.ireturn, 1) := by decide +kernel
theorem d7_givableOf_0 : decode b7_givableOf 0 = .ok (.iconst 0, 1) := by decide +kernel
theorem d7_givableOf_1 : decode b7_givableOf 1 = .ok (.istore_n 2, 1) := by decide +kernel
theorem d7_givableOf_2 : decode b7_givableOf 2 = .ok (.iconst 0, 1) := by decide +kernel
theorem d7_givableOf_3 : decode b7_givableOf 3 = .ok (.istore_n 3, 1) := by decide +kernel
theorem d7_givableOf_4 : decode b7_givableOf 4 = .ok (.iload_n 3, 1) := by decide +kernel
theorem d7_givableOf_5 : decode b7_givableOf 5 = .ok (.aload_n 0, 1) := by decide +kernel
theorem d7_givableOf_6 : decode b7_givableOf 6 = .ok (.getfield 48, 3) := by decide +kernel
theorem d7_givableOf_9 : decode b7_givableOf 9 = .ok (.iload_n 1, 1) := by decide +kernel
theorem d7_givableOf_10 : decode b7_givableOf 10 = .ok (.iaload, 1) := by decide +kernel
theorem d7_givableOf_11 : decode b7_givableOf 11 = .ok (.if_icmp .ge 45, 3) := by decide +kernel
theorem d7_givableOf_14 : decode b7_givableOf 14 = .ok (.iload_n 2, 1) := by decide +kernel
theorem d7_givableOf_15 : decode b7_givableOf 15 = .ok (.aload_n 0, 1) := by decide +kernel
theorem d7_givableOf_16 : decode b7_givableOf 16 = .ok (.getfield 54, 3) := by decide +kernel
theorem d7_givableOf_19 : decode b7_givableOf 19 = .ok (.bipush 6, 2) := by decide +kernel
theorem d7_givableOf_21 : decode b7_givableOf 21 = .ok (.iload_n 1, 1) := by decide +kernel
theorem d7_givableOf_22 : decode b7_givableOf 22 = .ok (.imul, 1) := by decide +kernel
theorem d7_givableOf_23 : decode b7_givableOf 23 = .ok (.iload_n 3, 1) := by decide +kernel
theorem d7_givableOf_24 : decode b7_givableOf 24 = .ok (.iadd, 1) := by decide +kernel
theorem d7_givableOf_25 : decode b7_givableOf 25 = .ok (.iaload, 1) := by decide +kernel
theorem d7_givableOf_26 : decode b7_givableOf 26 = .ok (.aload_n 0, 1) := by decide +kernel
theorem d7_givableOf_27 : decode b7_givableOf 27 = .ok (.getfield 100, 3) := by decide +kernel
theorem d7_givableOf_30 : decode b7_givableOf 30 = .ok (.if_icmp .le 17, 3) := by decide +kernel
theorem d7_givableOf_33 : decode b7_givableOf 33 = .ok (.aload_n 0, 1) := by decide +kernel
theorem d7_givableOf_34 : decode b7_givableOf 34 = .ok (.getfield 51, 3) := by decide +kernel
theorem d7_givableOf_37 : decode b7_givableOf 37 = .ok (.bipush 6, 2) := by decide +kernel
theorem d7_givableOf_39 : decode b7_givableOf 39 = .ok (.iload_n 1, 1) := by decide +kernel
theorem d7_givableOf_40 : decode b7_givableOf 40 = .ok (.imul, 1) := by decide +kernel
theorem d7_givableOf_41 : decode b7_givableOf 41 = .ok (.iload_n 3, 1) := by decide +kernel
theorem d7_givableOf_42 : decode b7_givableOf 42 = .ok (.iadd, 1) := by decide +kernel
theorem d7_givableOf_43 : decode b7_givableOf 43 = .ok (.iaload, 1) := by decide +kernel
theorem d7_givableOf_44 : decode b7_givableOf 44 = .ok (.goto 4, 3) := by decide +kernel
theorem d7_givableOf_47 : decode b7_givableOf 47 = .ok (.iconst 0, 1) := by decide +kernel
theorem d7_givableOf_48 : decode b7_givableOf 48 = .ok (.iadd, 1) := by decide +kernel
theorem d7_givableOf_49 : decode b7_givableOf 49 = .ok (.istore_n 2, 1) := by decide +kernel
theorem d7_givableOf_50 : decode b7_givableOf 50 = .ok (.iinc 3 1, 3) := by decide +kernel
theorem d7_givableOf_53 : decode b7_givableOf 53 = .ok (.goto (-49), 3) := by decide +kernel
theorem d7_givableOf_56 : decode b7_givableOf 56 = .ok (.iload_n 2, 1) := by decide +kernel
theorem d7_givableOf_57 : decode b7_givableOf 57 = .ok (.ireturn, 1) := by decide +kernel
theorem d7_firstOf_0 : decode b7_firstOf 0 = .ok (.iconst 0, 1) := by decide +kernel
theorem d7_firstOf_1 : decode b7_firstOf 1 = .ok (.istore_n 2, 1) := by decide +kernel
theorem d7_firstOf_2 : decode b7_firstOf 2 = .ok (.aload_n 0, 1) := by decide +kernel
theorem d7_firstOf_3 : decode b7_firstOf 3 = .ok (.getfield 48, 3) := by decide +kernel
theorem d7_firstOf_6 : decode b7_firstOf 6 = .ok (.iload_n 1, 1) := by decide +kernel
theorem d7_firstOf_7 : decode b7_firstOf 7 = .ok (.iaload, 1) := by decide +kernel
theorem d7_firstOf_8 : decode b7_firstOf 8 = .ok (.iconst 1, 1) := by decide +kernel
theorem d7_firstOf_9 : decode b7_firstOf 9 = .ok (.isub, 1) := by decide +kernel
theorem d7_firstOf_10 : decode b7_firstOf 10 = .ok (.istore_n 3, 1) := by decide +kernel
theorem d7_firstOf_11 : decode b7_firstOf 11 = .ok (.iload_n 3, 1) := by decide +kernel
theorem d7_firstOf_12 : decode b7_firstOf 12 = .ok (.ifCond .lt 43, 3) := by decide +kernel
theorem d7_firstOf_15 : decode b7_firstOf 15 = .ok (.aload_n 0, 1) := by decide +kernel
theorem d7_firstOf_16 : decode b7_firstOf 16 = .ok (.getfield 54, 3) := by decide +kernel
theorem d7_firstOf_19 : decode b7_firstOf 19 = .ok (.bipush 6, 2) := by decide +kernel
theorem d7_firstOf_21 : decode b7_firstOf 21 = .ok (.iload_n 1, 1) := by decide +kernel
theorem d7_firstOf_22 : decode b7_firstOf 22 = .ok (.imul, 1) := by decide +kernel
theorem d7_firstOf_23 : decode b7_firstOf 23 = .ok (.iload_n 3, 1) := by decide +kernel
theorem d7_firstOf_24 : decode b7_firstOf 24 = .ok (.iadd, 1) := by decide +kernel
theorem d7_firstOf_25 : decode b7_firstOf 25 = .ok (.iaload, 1) := by decide +kernel
theorem d7_firstOf_26 : decode b7_firstOf 26 = .ok (.aload_n 0, 1) := by decide +kernel
theorem d7_firstOf_27 : decode b7_firstOf 27 = .ok (.getfield 100, 3) := by decide +kernel
theorem d7_firstOf_30 : decode b7_firstOf 30 = .ok (.if_icmp .le 17, 3) := by decide +kernel
theorem d7_firstOf_33 : decode b7_firstOf 33 = .ok (.aload_n 0, 1) := by decide +kernel
theorem d7_firstOf_34 : decode b7_firstOf 34 = .ok (.getfield 54, 3) := by decide +kernel
theorem d7_firstOf_37 : decode b7_firstOf 37 = .ok (.bipush 6, 2) := by decide +kernel
theorem d7_firstOf_39 : decode b7_firstOf 39 = .ok (.iload_n 1, 1) := by decide +kernel
theorem d7_firstOf_40 : decode b7_firstOf 40 = .ok (.imul, 1) := by decide +kernel
theorem d7_firstOf_41 : decode b7_firstOf 41 = .ok (.iload_n 3, 1) := by decide +kernel
theorem d7_firstOf_42 : decode b7_firstOf 42 = .ok (.iadd, 1) := by decide +kernel
theorem d7_firstOf_43 : decode b7_firstOf 43 = .ok (.iaload, 1) := by decide +kernel
theorem d7_firstOf_44 : decode b7_firstOf 44 = .ok (.goto 4, 3) := by decide +kernel
theorem d7_firstOf_47 : decode b7_firstOf 47 = .ok (.iload_n 2, 1) := by decide +kernel
theorem d7_firstOf_48 : decode b7_firstOf 48 = .ok (.istore_n 2, 1) := by decide +kernel
theorem d7_firstOf_49 : decode b7_firstOf 49 = .ok (.iinc 3 (-1), 3) := by decide +kernel
theorem d7_firstOf_52 : decode b7_firstOf 52 = .ok (.goto (-41), 3) := by decide +kernel
theorem d7_firstOf_55 : decode b7_firstOf 55 = .ok (.iload_n 2, 1) := by decide +kernel
theorem d7_firstOf_56 : decode b7_firstOf 56 = .ok (.ireturn, 1) := by decide +kernel
theorem d7_putLot_0 : decode b7_putLot 0 = .ok (.aload_n 0, 1) := by decide +kernel
theorem d7_putLot_1 : decode b7_putLot 1 = .ok (.getfield 48, 3) := by decide +kernel
theorem d7_putLot_4 : decode b7_putLot 4 = .ok (.iload_n 1, 1) := by decide +kernel
theorem d7_putLot_5 : decode b7_putLot 5 = .ok (.iaload, 1) := by decide +kernel
theorem d7_putLot_6 : decode b7_putLot 6 = .ok (.istore 4, 2) := by decide +kernel
theorem d7_putLot_8 : decode b7_putLot 8 = .ok (.iload 4, 2) := by decide +kernel
theorem d7_putLot_10 : decode b7_putLot 10 = .ok (.ifCond .le 79, 3) := by decide +kernel
theorem d7_putLot_13 : decode b7_putLot 13 = .ok (.aload_n 0, 1) := by decide +kernel
theorem d7_putLot_14 : decode b7_putLot 14 = .ok (.getfield 54, 3) := by decide +kernel
theorem d7_putLot_17 : decode b7_putLot 17 = .ok (.bipush 6, 2) := by decide +kernel
theorem d7_putLot_19 : decode b7_putLot 19 = .ok (.iload_n 1, 1) := by decide +kernel
theorem d7_putLot_20 : decode b7_putLot 20 = .ok (.imul, 1) := by decide +kernel
theorem d7_putLot_21 : decode b7_putLot 21 = .ok (.iload 4, 2) := by decide +kernel
theorem d7_putLot_23 : decode b7_putLot 23 = .ok (.iadd, 1) := by decide +kernel
theorem d7_putLot_24 : decode b7_putLot 24 = .ok (.iconst 1, 1) := by decide +kernel
theorem d7_putLot_25 : decode b7_putLot 25 = .ok (.isub, 1) := by decide +kernel
theorem d7_putLot_26 : decode b7_putLot 26 = .ok (.iaload, 1) := by decide +kernel
theorem d7_putLot_27 : decode b7_putLot 27 = .ok (.iload_n 2, 1) := by decide +kernel
theorem d7_putLot_28 : decode b7_putLot 28 = .ok (.if_icmp .le 61, 3) := by decide +kernel
theorem d7_putLot_31 : decode b7_putLot 31 = .ok (.aload_n 0, 1) := by decide +kernel
theorem d7_putLot_32 : decode b7_putLot 32 = .ok (.getfield 51, 3) := by decide +kernel
theorem d7_putLot_35 : decode b7_putLot 35 = .ok (.bipush 6, 2) := by decide +kernel
theorem d7_putLot_37 : decode b7_putLot 37 = .ok (.iload_n 1, 1) := by decide +kernel
theorem d7_putLot_38 : decode b7_putLot 38 = .ok (.imul, 1) := by decide +kernel
theorem d7_putLot_39 : decode b7_putLot 39 = .ok (.iload 4, 2) := by decide +kernel
theorem d7_putLot_41 : decode b7_putLot 41 = .ok (.iadd, 1) := by decide +kernel
theorem d7_putLot_42 : decode b7_putLot 42 = .ok (.aload_n 0, 1) := by decide +kernel
theorem d7_putLot_43 : decode b7_putLot 43 = .ok (.getfield 51, 3) := by decide +kernel
theorem d7_putLot_46 : decode b7_putLot 46 = .ok (.bipush 6, 2) := by decide +kernel
theorem d7_putLot_48 : decode b7_putLot 48 = .ok (.iload_n 1, 1) := by decide +kernel
theorem d7_putLot_49 : decode b7_putLot 49 = .ok (.imul, 1) := by decide +kernel
theorem d7_putLot_50 : decode b7_putLot 50 = .ok (.iload 4, 2) := by decide +kernel
theorem d7_putLot_52 : decode b7_putLot 52 = .ok (.iadd, 1) := by decide +kernel
theorem d7_putLot_53 : decode b7_putLot 53 = .ok (.iconst 1, 1) := by decide +kernel
theorem d7_putLot_54 : decode b7_putLot 54 = .ok (.isub, 1) := by decide +kernel
theorem d7_putLot_55 : decode b7_putLot 55 = .ok (.iaload, 1) := by decide +kernel
theorem d7_putLot_56 : decode b7_putLot 56 = .ok (.iastore, 1) := by decide +kernel
theorem d7_putLot_57 : decode b7_putLot 57 = .ok (.aload_n 0, 1) := by decide +kernel
theorem d7_putLot_58 : decode b7_putLot 58 = .ok (.getfield 54, 3) := by decide +kernel
theorem d7_putLot_61 : decode b7_putLot 61 = .ok (.bipush 6, 2) := by decide +kernel
theorem d7_putLot_63 : decode b7_putLot 63 = .ok (.iload_n 1, 1) := by decide +kernel
theorem d7_putLot_64 : decode b7_putLot 64 = .ok (.imul, 1) := by decide +kernel
theorem d7_putLot_65 : decode b7_putLot 65 = .ok (.iload 4, 2) := by decide +kernel
theorem d7_putLot_67 : decode b7_putLot 67 = .ok (.iadd, 1) := by decide +kernel
theorem d7_putLot_68 : decode b7_putLot 68 = .ok (.aload_n 0, 1) := by decide +kernel
theorem d7_putLot_69 : decode b7_putLot 69 = .ok (.getfield 54, 3) := by decide +kernel
theorem d7_putLot_72 : decode b7_putLot 72 = .ok (.bipush 6, 2) := by decide +kernel
theorem d7_putLot_74 : decode b7_putLot 74 = .ok (.iload_n 1, 1) := by decide +kernel
theorem d7_putLot_75 : decode b7_putLot 75 = .ok (.imul, 1) := by decide +kernel
theorem d7_putLot_76 : decode b7_putLot 76 = .ok (.iload 4, 2) := by decide +kernel
theorem d7_putLot_78 : decode b7_putLot 78 = .ok (.iadd, 1) := by decide +kernel
theorem d7_putLot_79 : decode b7_putLot 79 = .ok (.iconst 1, 1) := by decide +kernel
theorem d7_putLot_80 : decode b7_putLot 80 = .ok (.isub, 1) := by decide +kernel
theorem d7_putLot_81 : decode b7_putLot 81 = .ok (.iaload, 1) := by decide +kernel
theorem d7_putLot_82 : decode b7_putLot 82 = .ok (.iastore, 1) := by decide +kernel
theorem d7_putLot_83 : decode b7_putLot 83 = .ok (.iinc 4 (-1), 3) := by decide +kernel
theorem d7_putLot_86 : decode b7_putLot 86 = .ok (.goto (-78), 3) := by decide +kernel
theorem d7_putLot_89 : decode b7_putLot 89 = .ok (.aload_n 0, 1) := by decide +kernel
theorem d7_putLot_90 : decode b7_putLot 90 = .ok (.getfield 51, 3) := by decide +kernel
theorem d7_putLot_93 : decode b7_putLot 93 = .ok (.bipush 6, 2) := by decide +kernel
theorem d7_putLot_95 : decode b7_putLot 95 = .ok (.iload_n 1, 1) := by decide +kernel
theorem d7_putLot_96 : decode b7_putLot 96 = .ok (.imul, 1) := by decide +kernel
theorem d7_putLot_97 : decode b7_putLot 97 = .ok (.iload 4, 2) := by decide +kernel
theorem d7_putLot_99 : decode b7_putLot 99 = .ok (.iadd, 1) := by decide +kernel
theorem d7_putLot_100 : decode b7_putLot 100 = .ok (.iload_n 3, 1) := by decide +kernel
theorem d7_putLot_101 : decode b7_putLot 101 = .ok (.iastore, 1) := by decide +kernel
theorem d7_putLot_102 : decode b7_putLot 102 = .ok (.aload_n 0, 1) := by decide +kernel
theorem d7_putLot_103 : decode b7_putLot 103 = .ok (.getfield 54, 3) := by decide +kernel
theorem d7_putLot_106 : decode b7_putLot 106 = .ok (.bipush 6, 2) := by decide +kernel
theorem d7_putLot_108 : decode b7_putLot 108 = .ok (.iload_n 1, 1) := by decide +kernel
theorem d7_putLot_109 : decode b7_putLot 109 = .ok (.imul, 1) := by decide +kernel
theorem d7_putLot_110 : decode b7_putLot 110 = .ok (.iload 4, 2) := by decide +kernel
theorem d7_putLot_112 : decode b7_putLot 112 = .ok (.iadd, 1) := by decide +kernel
theorem d7_putLot_113 : decode b7_putLot 113 = .ok (.iload_n 2, 1) := by decide +kernel
theorem d7_putLot_114 : decode b7_putLot 114 = .ok (.iastore, 1) := by decide +kernel
theorem d7_putLot_115 : decode b7_putLot 115 = .ok (.aload_n 0, 1) := by decide +kernel
theorem d7_putLot_116 : decode b7_putLot 116 = .ok (.getfield 48, 3) := by decide +kernel
theorem d7_putLot_119 : decode b7_putLot 119 = .ok (.iload_n 1, 1) := by decide +kernel
theorem d7_putLot_120 : decode b7_putLot 120 = .ok (.dup2, 1) := by decide +kernel
theorem d7_putLot_121 : decode b7_putLot 121 = .ok (.iaload, 1) := by decide +kernel
theorem d7_putLot_122 : decode b7_putLot 122 = .ok (.iconst 1, 1) := by decide +kernel
theorem d7_putLot_123 : decode b7_putLot 123 = .ok (.iadd, 1) := by decide +kernel
theorem d7_putLot_124 : decode b7_putLot 124 = .ok (.iastore, 1) := by decide +kernel
theorem d7_putLot_125 : decode b7_putLot 125 = .ok (.return_, 1) := by decide +kernel
theorem d7_takeUnits_0 : decode b7_takeUnits 0 = .ok (.iload_n 2, 1) := by decide +kernel
theorem d7_takeUnits_1 : decode b7_takeUnits 1 = .ok (.istore 4, 2) := by decide +kernel
theorem d7_takeUnits_3 : decode b7_takeUnits 3 = .ok (.iconst 0, 1) := by decide +kernel
theorem d7_takeUnits_4 : decode b7_takeUnits 4 = .ok (.istore 5, 2) := by decide +kernel
theorem d7_takeUnits_6 : decode b7_takeUnits 6 = .ok (.iconst 0, 1) := by decide +kernel
theorem d7_takeUnits_7 : decode b7_takeUnits 7 = .ok (.istore 6, 2) := by decide +kernel
theorem d7_takeUnits_9 : decode b7_takeUnits 9 = .ok (.iload 6, 2) := by decide +kernel
theorem d7_takeUnits_11 : decode b7_takeUnits 11 = .ok (.aload_n 0, 1) := by decide +kernel
theorem d7_takeUnits_12 : decode b7_takeUnits 12 = .ok (.getfield 48, 3) := by decide +kernel
theorem d7_takeUnits_15 : decode b7_takeUnits 15 = .ok (.iload_n 1, 1) := by decide +kernel
theorem d7_takeUnits_16 : decode b7_takeUnits 16 = .ok (.iaload, 1) := by decide +kernel
theorem d7_takeUnits_17 : decode b7_takeUnits 17 = .ok (.if_icmp .ge 138, 3) := by decide +kernel
theorem d7_takeUnits_20 : decode b7_takeUnits 20 = .ok (.bipush 6, 2) := by decide +kernel
theorem d7_takeUnits_22 : decode b7_takeUnits 22 = .ok (.iload_n 1, 1) := by decide +kernel
theorem d7_takeUnits_23 : decode b7_takeUnits 23 = .ok (.imul, 1) := by decide +kernel
theorem d7_takeUnits_24 : decode b7_takeUnits 24 = .ok (.iload 6, 2) := by decide +kernel
theorem d7_takeUnits_26 : decode b7_takeUnits 26 = .ok (.iadd, 1) := by decide +kernel
theorem d7_takeUnits_27 : decode b7_takeUnits 27 = .ok (.istore 7, 2) := by decide +kernel
theorem d7_takeUnits_29 : decode b7_takeUnits 29 = .ok (.iload_n 3, 1) := by decide +kernel
theorem d7_takeUnits_30 : decode b7_takeUnits 30 = .ok (.ifCond .ne 17, 3) := by decide +kernel
theorem d7_takeUnits_33 : decode b7_takeUnits 33 = .ok (.aload_n 0, 1) := by decide +kernel
theorem d7_takeUnits_34 : decode b7_takeUnits 34 = .ok (.getfield 54, 3) := by decide +kernel
theorem d7_takeUnits_37 : decode b7_takeUnits 37 = .ok (.iload 7, 2) := by decide +kernel
theorem d7_takeUnits_39 : decode b7_takeUnits 39 = .ok (.iaload, 1) := by decide +kernel
theorem d7_takeUnits_40 : decode b7_takeUnits 40 = .ok (.aload_n 0, 1) := by decide +kernel
theorem d7_takeUnits_41 : decode b7_takeUnits 41 = .ok (.getfield 100, 3) := by decide +kernel
theorem d7_takeUnits_44 : decode b7_takeUnits 44 = .ok (.if_icmp .le 7, 3) := by decide +kernel
theorem d7_takeUnits_47 : decode b7_takeUnits 47 = .ok (.iconst 1, 1) := by decide +kernel
theorem d7_takeUnits_48 : decode b7_takeUnits 48 = .ok (.goto 4, 3) := by decide +kernel
theorem d7_takeUnits_51 : decode b7_takeUnits 51 = .ok (.iconst 0, 1) := by decide +kernel
theorem d7_takeUnits_52 : decode b7_takeUnits 52 = .ok (.istore 8, 2) := by decide +kernel
theorem d7_takeUnits_54 : decode b7_takeUnits 54 = .ok (.iload 8, 2) := by decide +kernel
theorem d7_takeUnits_56 : decode b7_takeUnits 56 = .ok (.ifCond .ne 7, 3) := by decide +kernel
theorem d7_takeUnits_59 : decode b7_takeUnits 59 = .ok (.iconst 0, 1) := by decide +kernel
theorem d7_takeUnits_60 : decode b7_takeUnits 60 = .ok (.goto 27, 3) := by decide +kernel
theorem d7_takeUnits_63 : decode b7_takeUnits 63 = .ok (.aload_n 0, 1) := by decide +kernel
theorem d7_takeUnits_64 : decode b7_takeUnits 64 = .ok (.getfield 51, 3) := by decide +kernel
theorem d7_takeUnits_67 : decode b7_takeUnits 67 = .ok (.iload 7, 2) := by decide +kernel
theorem d7_takeUnits_69 : decode b7_takeUnits 69 = .ok (.iaload, 1) := by decide +kernel
theorem d7_takeUnits_70 : decode b7_takeUnits 70 = .ok (.iload 4, 2) := by decide +kernel
theorem d7_takeUnits_72 : decode b7_takeUnits 72 = .ok (.if_icmp .ge 13, 3) := by decide +kernel
theorem d7_takeUnits_75 : decode b7_takeUnits 75 = .ok (.aload_n 0, 1) := by decide +kernel
theorem d7_takeUnits_76 : decode b7_takeUnits 76 = .ok (.getfield 51, 3) := by decide +kernel
theorem d7_takeUnits_79 : decode b7_takeUnits 79 = .ok (.iload 7, 2) := by decide +kernel
theorem d7_takeUnits_81 : decode b7_takeUnits 81 = .ok (.iaload, 1) := by decide +kernel
theorem d7_takeUnits_82 : decode b7_takeUnits 82 = .ok (.goto 5, 3) := by decide +kernel
theorem d7_takeUnits_85 : decode b7_takeUnits 85 = .ok (.iload 4, 2) := by decide +kernel
theorem d7_takeUnits_87 : decode b7_takeUnits 87 = .ok (.istore 9, 2) := by decide +kernel
theorem d7_takeUnits_89 : decode b7_takeUnits 89 = .ok (.iload 4, 2) := by decide +kernel
theorem d7_takeUnits_91 : decode b7_takeUnits 91 = .ok (.iload 9, 2) := by decide +kernel
theorem d7_takeUnits_93 : decode b7_takeUnits 93 = .ok (.isub, 1) := by decide +kernel
theorem d7_takeUnits_94 : decode b7_takeUnits 94 = .ok (.istore 4, 2) := by decide +kernel
theorem d7_takeUnits_96 : decode b7_takeUnits 96 = .ok (.aload_n 0, 1) := by decide +kernel
theorem d7_takeUnits_97 : decode b7_takeUnits 97 = .ok (.getfield 51, 3) := by decide +kernel
theorem d7_takeUnits_100 : decode b7_takeUnits 100 = .ok (.iload 7, 2) := by decide +kernel
theorem d7_takeUnits_102 : decode b7_takeUnits 102 = .ok (.iaload, 1) := by decide +kernel
theorem d7_takeUnits_103 : decode b7_takeUnits 103 = .ok (.iload 9, 2) := by decide +kernel
theorem d7_takeUnits_105 : decode b7_takeUnits 105 = .ok (.isub, 1) := by decide +kernel
theorem d7_takeUnits_106 : decode b7_takeUnits 106 = .ok (.istore 10, 2) := by decide +kernel
theorem d7_takeUnits_108 : decode b7_takeUnits 108 = .ok (.iload 10, 2) := by decide +kernel
theorem d7_takeUnits_110 : decode b7_takeUnits 110 = .ok (.ifCond .le 39, 3) := by decide +kernel
theorem d7_takeUnits_113 : decode b7_takeUnits 113 = .ok (.aload_n 0, 1) := by decide +kernel
theorem d7_takeUnits_114 : decode b7_takeUnits 114 = .ok (.getfield 51, 3) := by decide +kernel
theorem d7_takeUnits_117 : decode b7_takeUnits 117 = .ok (.bipush 6, 2) := by decide +kernel
theorem d7_takeUnits_119 : decode b7_takeUnits 119 = .ok (.iload_n 1, 1) := by decide +kernel
theorem d7_takeUnits_120 : decode b7_takeUnits 120 = .ok (.imul, 1) := by decide +kernel
theorem d7_takeUnits_121 : decode b7_takeUnits 121 = .ok (.iload 5, 2) := by decide +kernel
theorem d7_takeUnits_123 : decode b7_takeUnits 123 = .ok (.iadd, 1) := by decide +kernel
theorem d7_takeUnits_124 : decode b7_takeUnits 124 = .ok (.iload 10, 2) := by decide +kernel
theorem d7_takeUnits_126 : decode b7_takeUnits 126 = .ok (.iastore, 1) := by decide +kernel
theorem d7_takeUnits_127 : decode b7_takeUnits 127 = .ok (.aload_n 0, 1) := by decide +kernel
theorem d7_takeUnits_128 : decode b7_takeUnits 128 = .ok (.getfield 54, 3) := by decide +kernel
theorem d7_takeUnits_131 : decode b7_takeUnits 131 = .ok (.bipush 6, 2) := by decide +kernel
theorem d7_takeUnits_133 : decode b7_takeUnits 133 = .ok (.iload_n 1, 1) := by decide +kernel
theorem d7_takeUnits_134 : decode b7_takeUnits 134 = .ok (.imul, 1) := by decide +kernel
theorem d7_takeUnits_135 : decode b7_takeUnits 135 = .ok (.iload 5, 2) := by decide +kernel
theorem d7_takeUnits_137 : decode b7_takeUnits 137 = .ok (.iadd, 1) := by decide +kernel
theorem d7_takeUnits_138 : decode b7_takeUnits 138 = .ok (.aload_n 0, 1) := by decide +kernel
theorem d7_takeUnits_139 : decode b7_takeUnits 139 = .ok (.getfield 54, 3) := by decide +kernel
theorem d7_takeUnits_142 : decode b7_takeUnits 142 = .ok (.iload 7, 2) := by decide +kernel
theorem d7_takeUnits_144 : decode b7_takeUnits 144 = .ok (.iaload, 1) := by decide +kernel
theorem d7_takeUnits_145 : decode b7_takeUnits 145 = .ok (.iastore, 1) := by decide +kernel
theorem d7_takeUnits_146 : decode b7_takeUnits 146 = .ok (.iinc 5 1, 3) := by decide +kernel
theorem d7_takeUnits_149 : decode b7_takeUnits 149 = .ok (.iinc 6 1, 3) := by decide +kernel
theorem d7_takeUnits_152 : decode b7_takeUnits 152 = .ok (.goto (-143), 3) := by decide +kernel
theorem d7_takeUnits_155 : decode b7_takeUnits 155 = .ok (.aload_n 0, 1) := by decide +kernel
theorem d7_takeUnits_156 : decode b7_takeUnits 156 = .ok (.getfield 48, 3) := by decide +kernel
theorem d7_takeUnits_159 : decode b7_takeUnits 159 = .ok (.iload_n 1, 1) := by decide +kernel
theorem d7_takeUnits_160 : decode b7_takeUnits 160 = .ok (.iload 5, 2) := by decide +kernel
theorem d7_takeUnits_162 : decode b7_takeUnits 162 = .ok (.iastore, 1) := by decide +kernel
theorem d7_takeUnits_163 : decode b7_takeUnits 163 = .ok (.return_, 1) := by decide +kernel
theorem d7_note_0 : decode b7_note 0 = .ok (.aload_n 0, 1) := by decide +kernel
theorem d7_note_1 : decode b7_note 1 = .ok (.getfield 84, 3) := by decide +kernel
theorem d7_note_4 : decode b7_note 4 = .ok (.bipush 6, 2) := by decide +kernel
theorem d7_note_6 : decode b7_note 6 = .ok (.aload_n 0, 1) := by decide +kernel
theorem d7_note_7 : decode b7_note 7 = .ok (.getfield 130, 3) := by decide +kernel
theorem d7_note_10 : decode b7_note 10 = .ok (.imul, 1) := by decide +kernel
theorem d7_note_11 : decode b7_note 11 = .ok (.iload_n 1, 1) := by decide +kernel
theorem d7_note_12 : decode b7_note 12 = .ok (.iastore, 1) := by decide +kernel
theorem d7_note_13 : decode b7_note 13 = .ok (.aload_n 0, 1) := by decide +kernel
theorem d7_note_14 : decode b7_note 14 = .ok (.getfield 84, 3) := by decide +kernel
theorem d7_note_17 : decode b7_note 17 = .ok (.bipush 6, 2) := by decide +kernel
theorem d7_note_19 : decode b7_note 19 = .ok (.aload_n 0, 1) := by decide +kernel
theorem d7_note_20 : decode b7_note 20 = .ok (.getfield 130, 3) := by decide +kernel
theorem d7_note_23 : decode b7_note 23 = .ok (.imul, 1) := by decide +kernel
theorem d7_note_24 : decode b7_note 24 = .ok (.iconst 1, 1) := by decide +kernel
theorem d7_note_25 : decode b7_note 25 = .ok (.iadd, 1) := by decide +kernel
theorem d7_note_26 : decode b7_note 26 = .ok (.aload_n 0, 1) := by decide +kernel
theorem d7_note_27 : decode b7_note 27 = .ok (.getfield 100, 3) := by decide +kernel
theorem d7_note_30 : decode b7_note 30 = .ok (.iastore, 1) := by decide +kernel
theorem d7_note_31 : decode b7_note 31 = .ok (.aload_n 0, 1) := by decide +kernel
theorem d7_note_32 : decode b7_note 32 = .ok (.getfield 84, 3) := by decide +kernel
theorem d7_note_35 : decode b7_note 35 = .ok (.bipush 6, 2) := by decide +kernel
theorem d7_note_37 : decode b7_note 37 = .ok (.aload_n 0, 1) := by decide +kernel
theorem d7_note_38 : decode b7_note 38 = .ok (.getfield 130, 3) := by decide +kernel
theorem d7_note_41 : decode b7_note 41 = .ok (.imul, 1) := by decide +kernel
theorem d7_note_42 : decode b7_note 42 = .ok (.iconst 2, 1) := by decide +kernel
theorem d7_note_43 : decode b7_note 43 = .ok (.iadd, 1) := by decide +kernel
theorem d7_note_44 : decode b7_note 44 = .ok (.aload_n 0, 1) := by decide +kernel
theorem d7_note_45 : decode b7_note 45 = .ok (.getfield 26, 3) := by decide +kernel
theorem d7_note_48 : decode b7_note 48 = .ok (.iastore, 1) := by decide +kernel
theorem d7_note_49 : decode b7_note 49 = .ok (.aload_n 0, 1) := by decide +kernel
theorem d7_note_50 : decode b7_note 50 = .ok (.getfield 84, 3) := by decide +kernel
theorem d7_note_53 : decode b7_note 53 = .ok (.bipush 6, 2) := by decide +kernel
theorem d7_note_55 : decode b7_note 55 = .ok (.aload_n 0, 1) := by decide +kernel
theorem d7_note_56 : decode b7_note 56 = .ok (.getfield 130, 3) := by decide +kernel
theorem d7_note_59 : decode b7_note 59 = .ok (.imul, 1) := by decide +kernel
theorem d7_note_60 : decode b7_note 60 = .ok (.iconst 3, 1) := by decide +kernel
theorem d7_note_61 : decode b7_note 61 = .ok (.iadd, 1) := by decide +kernel
theorem d7_note_62 : decode b7_note 62 = .ok (.iload_n 2, 1) := by decide +kernel
theorem d7_note_63 : decode b7_note 63 = .ok (.iastore, 1) := by decide +kernel
theorem d7_note_64 : decode b7_note 64 = .ok (.aload_n 0, 1) := by decide +kernel
theorem d7_note_65 : decode b7_note 65 = .ok (.getfield 84, 3) := by decide +kernel
theorem d7_note_68 : decode b7_note 68 = .ok (.bipush 6, 2) := by decide +kernel
theorem d7_note_70 : decode b7_note 70 = .ok (.aload_n 0, 1) := by decide +kernel
theorem d7_note_71 : decode b7_note 71 = .ok (.getfield 130, 3) := by decide +kernel
theorem d7_note_74 : decode b7_note 74 = .ok (.imul, 1) := by decide +kernel
theorem d7_note_75 : decode b7_note 75 = .ok (.iconst 4, 1) := by decide +kernel
theorem d7_note_76 : decode b7_note 76 = .ok (.iadd, 1) := by decide +kernel
theorem d7_note_77 : decode b7_note 77 = .ok (.iload_n 3, 1) := by decide +kernel
theorem d7_note_78 : decode b7_note 78 = .ok (.iastore, 1) := by decide +kernel
theorem d7_note_79 : decode b7_note 79 = .ok (.aload_n 0, 1) := by decide +kernel
theorem d7_note_80 : decode b7_note 80 = .ok (.getfield 84, 3) := by decide +kernel
theorem d7_note_83 : decode b7_note 83 = .ok (.bipush 6, 2) := by decide +kernel
theorem d7_note_85 : decode b7_note 85 = .ok (.aload_n 0, 1) := by decide +kernel
theorem d7_note_86 : decode b7_note 86 = .ok (.getfield 130, 3) := by decide +kernel
theorem d7_note_89 : decode b7_note 89 = .ok (.imul, 1) := by decide +kernel
theorem d7_note_90 : decode b7_note 90 = .ok (.iconst 5, 1) := by decide +kernel
theorem d7_note_91 : decode b7_note 91 = .ok (.iadd, 1) := by decide +kernel
theorem d7_note_92 : decode b7_note 92 = .ok (.iload 4, 2) := by decide +kernel
theorem d7_note_94 : decode b7_note 94 = .ok (.iastore, 1) := by decide +kernel
theorem d7_note_95 : decode b7_note 95 = .ok (.aload_n 0, 1) := by decide +kernel
theorem d7_note_96 : decode b7_note 96 = .ok (.dup, 1) := by decide +kernel
theorem d7_note_97 : decode b7_note 97 = .ok (.getfield 130, 3) := by decide +kernel
theorem d7_note_100 : decode b7_note 100 = .ok (.iconst 1, 1) := by decide +kernel
theorem d7_note_101 : decode b7_note 101 = .ok (.iadd, 1) := by decide +kernel
theorem d7_note_102 : decode b7_note 102 = .ok (.putfield 130, 3) := by decide +kernel
theorem d7_note_105 : decode b7_note 105 = .ok (.aload_n 0, 1) := by decide +kernel
theorem d7_note_106 : decode b7_note 106 = .ok (.aload_n 0, 1) := by decide +kernel
theorem d7_note_107 : decode b7_note 107 = .ok (.getfield 100, 3) := by decide +kernel
theorem d7_note_110 : decode b7_note 110 = .ok (.putfield 114, 3) := by decide +kernel
theorem d7_note_113 : decode b7_note 113 = .ok (.return_, 1) := by decide +kernel
theorem d7_wholeCopies_0 : decode b7_wholeCopies 0 = .ok (.aload_n 0, 1) := by decide +kernel
theorem d7_wholeCopies_1 : decode b7_wholeCopies 1 = .ok (.getfield 87, 3) := by decide +kernel
theorem d7_wholeCopies_4 : decode b7_wholeCopies 4 = .ok (.iconst 0, 1) := by decide +kernel
theorem d7_wholeCopies_5 : decode b7_wholeCopies 5 = .ok (.baload, 1) := by decide +kernel
theorem d7_wholeCopies_6 : decode b7_wholeCopies 6 = .ok (.ifCond .eq 7, 3) := by decide +kernel
theorem d7_wholeCopies_9 : decode b7_wholeCopies 9 = .ok (.iconst 0, 1) := by decide +kernel
theorem d7_wholeCopies_10 : decode b7_wholeCopies 10 = .ok (.goto 4, 3) := by decide +kernel
theorem d7_wholeCopies_13 : decode b7_wholeCopies 13 = .ok (.iconst 1, 1) := by decide +kernel
theorem d7_wholeCopies_14 : decode b7_wholeCopies 14 = .ok (.aload_n 0, 1) := by decide +kernel
theorem d7_wholeCopies_15 : decode b7_wholeCopies 15 = .ok (.getfield 87, 3) := by decide +kernel
theorem d7_wholeCopies_18 : decode b7_wholeCopies 18 = .ok (.iconst 1, 1) := by decide +kernel
theorem d7_wholeCopies_19 : decode b7_wholeCopies 19 = .ok (.baload, 1) := by decide +kernel
theorem d7_wholeCopies_20 : decode b7_wholeCopies 20 = .ok (.ifCond .eq 7, 3) := by decide +kernel
theorem d7_wholeCopies_23 : decode b7_wholeCopies 23 = .ok (.iconst 0, 1) := by decide +kernel
theorem d7_wholeCopies_24 : decode b7_wholeCopies 24 = .ok (.goto 4, 3) := by decide +kernel
theorem d7_wholeCopies_27 : decode b7_wholeCopies 27 = .ok (.iconst 1, 1) := by decide +kernel
theorem d7_wholeCopies_28 : decode b7_wholeCopies 28 = .ok (.iadd, 1) := by decide +kernel
theorem d7_wholeCopies_29 : decode b7_wholeCopies 29 = .ok (.ireturn, 1) := by decide +kernel
theorem d7_chosen_0 : decode b7_chosen 0 = .ok (.iconst (-1), 1) := by decide +kernel
theorem d7_chosen_1 : decode b7_chosen 1 = .ok (.istore_n 2, 1) := by decide +kernel
theorem d7_chosen_2 : decode b7_chosen 2 = .ok (.iconst 0, 1) := by decide +kernel
theorem d7_chosen_3 : decode b7_chosen 3 = .ok (.istore_n 3, 1) := by decide +kernel
theorem d7_chosen_4 : decode b7_chosen 4 = .ok (.iload_n 3, 1) := by decide +kernel
theorem d7_chosen_5 : decode b7_chosen 5 = .ok (.bipush 64, 2) := by decide +kernel
theorem d7_chosen_7 : decode b7_chosen 7 = .ok (.if_icmp .ge 62, 3) := by decide +kernel
theorem d7_chosen_10 : decode b7_chosen 10 = .ok (.aload_n 0, 1) := by decide +kernel
theorem d7_chosen_11 : decode b7_chosen 11 = .ok (.getfield 45, 3) := by decide +kernel
theorem d7_chosen_14 : decode b7_chosen 14 = .ok (.iload_n 3, 1) := by decide +kernel
theorem d7_chosen_15 : decode b7_chosen 15 = .ok (.iaload, 1) := by decide +kernel
theorem d7_chosen_16 : decode b7_chosen 16 = .ok (.iload_n 1, 1) := by decide +kernel
theorem d7_chosen_17 : decode b7_chosen 17 = .ok (.if_icmp .ne 15, 3) := by decide +kernel
theorem d7_chosen_20 : decode b7_chosen 20 = .ok (.aload_n 0, 1) := by decide +kernel
theorem d7_chosen_21 : decode b7_chosen 21 = .ok (.iload_n 3, 1) := by decide +kernel
theorem d7_chosen_22 : decode b7_chosen 22 = .ok (.invokevirtual 133, 3) := by decide +kernel
theorem d7_chosen_25 : decode b7_chosen 25 = .ok (.ifCond .le 7, 3) := by decide +kernel
theorem d7_chosen_28 : decode b7_chosen 28 = .ok (.iconst 1, 1) := by decide +kernel
theorem d7_chosen_29 : decode b7_chosen 29 = .ok (.goto 4, 3) := by decide +kernel
theorem d7_chosen_32 : decode b7_chosen 32 = .ok (.iconst 0, 1) := by decide +kernel
theorem d7_chosen_33 : decode b7_chosen 33 = .ok (.istore 4, 2) := by decide +kernel
theorem d7_chosen_35 : decode b7_chosen 35 = .ok (.iload 4, 2) := by decide +kernel
theorem d7_chosen_37 : decode b7_chosen 37 = .ok (.ifCond .eq 24, 3) := by decide +kernel
theorem d7_chosen_40 : decode b7_chosen 40 = .ok (.iload_n 2, 1) := by decide +kernel
theorem d7_chosen_41 : decode b7_chosen 41 = .ok (.ifCond .lt 16, 3) := by decide +kernel
theorem d7_chosen_44 : decode b7_chosen 44 = .ok (.aload_n 0, 1) := by decide +kernel
theorem d7_chosen_45 : decode b7_chosen 45 = .ok (.iload_n 3, 1) := by decide +kernel
theorem d7_chosen_46 : decode b7_chosen 46 = .ok (.invokevirtual 137, 3) := by decide +kernel
theorem d7_chosen_49 : decode b7_chosen 49 = .ok (.aload_n 0, 1) := by decide +kernel
theorem d7_chosen_50 : decode b7_chosen 50 = .ok (.iload_n 2, 1) := by decide +kernel
theorem d7_chosen_51 : decode b7_chosen 51 = .ok (.invokevirtual 137, 3) := by decide +kernel
theorem d7_chosen_54 : decode b7_chosen 54 = .ok (.if_icmp .ge 7, 3) := by decide +kernel
theorem d7_chosen_57 : decode b7_chosen 57 = .ok (.iload_n 3, 1) := by decide +kernel
theorem d7_chosen_58 : decode b7_chosen 58 = .ok (.goto 4, 3) := by decide +kernel
theorem d7_chosen_61 : decode b7_chosen 61 = .ok (.iload_n 2, 1) := by decide +kernel
theorem d7_chosen_62 : decode b7_chosen 62 = .ok (.istore_n 2, 1) := by decide +kernel
theorem d7_chosen_63 : decode b7_chosen 63 = .ok (.iinc 3 1, 3) := by decide +kernel
theorem d7_chosen_66 : decode b7_chosen 66 = .ok (.goto (-62), 3) := by decide +kernel
theorem d7_chosen_69 : decode b7_chosen 69 = .ok (.iload_n 2, 1) := by decide +kernel
theorem d7_chosen_70 : decode b7_chosen 70 = .ok (.ireturn, 1) := by decide +kernel
theorem d7_mayTake_0 : decode b7_mayTake 0 = .ok (.aload_n 0, 1) := by decide +kernel
theorem d7_mayTake_1 : decode b7_mayTake 1 = .ok (.iload_n 1, 1) := by decide +kernel
theorem d7_mayTake_2 : decode b7_mayTake 2 = .ok (.invokevirtual 127, 3) := by decide +kernel
theorem d7_mayTake_5 : decode b7_mayTake 5 = .ok (.ifCond .eq 36, 3) := by decide +kernel
theorem d7_mayTake_8 : decode b7_mayTake 8 = .ok (.aload_n 0, 1) := by decide +kernel
theorem d7_mayTake_9 : decode b7_mayTake 9 = .ok (.getfield 78, 3) := by decide +kernel
theorem d7_mayTake_12 : decode b7_mayTake 12 = .ok (.iload_n 1, 1) := by decide +kernel
theorem d7_mayTake_13 : decode b7_mayTake 13 = .ok (.iaload, 1) := by decide +kernel
theorem d7_mayTake_14 : decode b7_mayTake 14 = .ok (.ifCond .lt 23, 3) := by decide +kernel
theorem d7_mayTake_17 : decode b7_mayTake 17 = .ok (.aload_n 0, 1) := by decide +kernel
theorem d7_mayTake_18 : decode b7_mayTake 18 = .ok (.getfield 100, 3) := by decide +kernel
theorem d7_mayTake_21 : decode b7_mayTake 21 = .ok (.aload_n 0, 1) := by decide +kernel
theorem d7_mayTake_22 : decode b7_mayTake 22 = .ok (.getfield 78, 3) := by decide +kernel
theorem d7_mayTake_25 : decode b7_mayTake 25 = .ok (.iload_n 1, 1) := by decide +kernel
theorem d7_mayTake_26 : decode b7_mayTake 26 = .ok (.iaload, 1) := by decide +kernel
theorem d7_mayTake_27 : decode b7_mayTake 27 = .ok (.isub, 1) := by decide +kernel
theorem d7_mayTake_28 : decode b7_mayTake 28 = .ok (.aload_n 0, 1) := by decide +kernel
theorem d7_mayTake_29 : decode b7_mayTake 29 = .ok (.getfield 69, 3) := by decide +kernel
theorem d7_mayTake_32 : decode b7_mayTake 32 = .ok (.iload_n 1, 1) := by decide +kernel
theorem d7_mayTake_33 : decode b7_mayTake 33 = .ok (.iaload, 1) := by decide +kernel
theorem d7_mayTake_34 : decode b7_mayTake 34 = .ok (.if_icmp .lt 7, 3) := by decide +kernel
theorem d7_mayTake_37 : decode b7_mayTake 37 = .ok (.iconst 1, 1) := by decide +kernel
theorem d7_mayTake_38 : decode b7_mayTake 38 = .ok (.goto 4, 3) := by decide +kernel
theorem d7_mayTake_41 : decode b7_mayTake 41 = .ok (.iconst 0, 1) := by decide +kernel
theorem d7_mayTake_42 : decode b7_mayTake 42 = .ok (.ireturn, 1) := by decide +kernel
theorem d7_begin_0 : decode b7_begin 0 = .ok (.iload_n 1, 1) := by decide +kernel
theorem d7_begin_1 : decode b7_begin 1 = .ok (.iconst 0, 1) := by decide +kernel
theorem d7_begin_2 : decode b7_begin 2 = .ok (.iconst 3, 1) := by decide +kernel
theorem d7_begin_3 : decode b7_begin 3 = .ok (.invokestatic 93, 3) := by decide +kernel
theorem d7_begin_6 : decode b7_begin 6 = .ok (.ifCond .eq 29, 3) := by decide +kernel
theorem d7_begin_9 : decode b7_begin 9 = .ok (.iload_n 1, 1) := by decide +kernel
theorem d7_begin_10 : decode b7_begin 10 = .ok (.ifCond .ne 14, 3) := by decide +kernel
theorem d7_begin_13 : decode b7_begin 13 = .ok (.aload_n 0, 1) := by decide +kernel
theorem d7_begin_14 : decode b7_begin 14 = .ok (.iload_n 2, 1) := by decide +kernel
theorem d7_begin_15 : decode b7_begin 15 = .ok (.invokevirtual 121, 3) := by decide +kernel
theorem d7_begin_18 : decode b7_begin 18 = .ok (.ifCond .eq 17, 3) := by decide +kernel
theorem d7_begin_21 : decode b7_begin 21 = .ok (.goto 10, 3) := by decide +kernel
theorem d7_begin_24 : decode b7_begin 24 = .ok (.iload_n 2, 1) := by decide +kernel
theorem d7_begin_25 : decode b7_begin 25 = .ok (.invokestatic 140, 3) := by decide +kernel
theorem d7_begin_28 : decode b7_begin 28 = .ok (.ifCond .eq 7, 3) := by decide +kernel
theorem d7_begin_31 : decode b7_begin 31 = .ok (.iconst 1, 1) := by decide +kernel
theorem d7_begin_32 : decode b7_begin 32 = .ok (.goto 4, 3) := by decide +kernel
theorem d7_begin_35 : decode b7_begin 35 = .ok (.iconst 0, 1) := by decide +kernel
theorem d7_begin_36 : decode b7_begin 36 = .ok (.istore_n 3, 1) := by decide +kernel
theorem d7_begin_37 : decode b7_begin 37 = .ok (.iload_n 3, 1) := by decide +kernel
theorem d7_begin_38 : decode b7_begin 38 = .ok (.ifCond .eq 17, 3) := by decide +kernel
theorem d7_begin_41 : decode b7_begin 41 = .ok (.iload_n 1, 1) := by decide +kernel
theorem d7_begin_42 : decode b7_begin 42 = .ok (.iconst 1, 1) := by decide +kernel
theorem d7_begin_43 : decode b7_begin 43 = .ok (.if_icmp .le 14, 3) := by decide +kernel
theorem d7_begin_46 : decode b7_begin 46 = .ok (.aload_n 0, 1) := by decide +kernel
theorem d7_begin_47 : decode b7_begin 47 = .ok (.getfield 45, 3) := by decide +kernel
theorem d7_begin_50 : decode b7_begin 50 = .ok (.iload_n 2, 1) := by decide +kernel
theorem d7_begin_51 : decode b7_begin 51 = .ok (.iaload, 1) := by decide +kernel
theorem d7_begin_52 : decode b7_begin 52 = .ok (.ifCond .ge 5, 3) := by decide +kernel
theorem d7_begin_55 : decode b7_begin 55 = .ok (.iconst (-1), 1) := by decide +kernel
theorem d7_begin_56 : decode b7_begin 56 = .ok (.ireturn, 1) := by decide +kernel
theorem d7_begin_57 : decode b7_begin 57 = .ok (.iload_n 1, 1) := by decide +kernel
theorem d7_begin_58 : decode b7_begin 58 = .ok (.ifCond .ne 12, 3) := by decide +kernel
theorem d7_begin_61 : decode b7_begin 61 = .ok (.aload_n 0, 1) := by decide +kernel
theorem d7_begin_62 : decode b7_begin 62 = .ok (.getfield 63, 3) := by decide +kernel
theorem d7_begin_65 : decode b7_begin 65 = .ok (.iload_n 2, 1) := by decide +kernel
theorem d7_begin_66 : decode b7_begin 66 = .ok (.iaload, 1) := by decide +kernel
theorem d7_begin_67 : decode b7_begin 67 = .ok (.goto 9, 3) := by decide +kernel
theorem d7_begin_70 : decode b7_begin 70 = .ok (.aload_n 0, 1) := by decide +kernel
theorem d7_begin_71 : decode b7_begin 71 = .ok (.getfield 45, 3) := by decide +kernel
theorem d7_begin_74 : decode b7_begin 74 = .ok (.iload_n 2, 1) := by decide +kernel
theorem d7_begin_75 : decode b7_begin 75 = .ok (.iaload, 1) := by decide +kernel
theorem d7_begin_76 : decode b7_begin 76 = .ok (.istore 4, 2) := by decide +kernel
theorem d7_begin_78 : decode b7_begin 78 = .ok (.iload 4, 2) := by decide +kernel
theorem d7_begin_80 : decode b7_begin 80 = .ok (.ifCond .lt 22, 3) := by decide +kernel
theorem d7_begin_83 : decode b7_begin 83 = .ok (.aload_n 0, 1) := by decide +kernel
theorem d7_begin_84 : decode b7_begin 84 = .ok (.getfield 36, 3) := by decide +kernel
theorem d7_begin_87 : decode b7_begin 87 = .ok (.iload 4, 2) := by decide +kernel
theorem d7_begin_89 : decode b7_begin 89 = .ok (.baload, 1) := by decide +kernel
theorem d7_begin_90 : decode b7_begin 90 = .ok (.ifCond .eq 12, 3) := by decide +kernel
theorem d7_begin_93 : decode b7_begin 93 = .ok (.iload_n 1, 1) := by decide +kernel
theorem d7_begin_94 : decode b7_begin 94 = .ok (.iconst 1, 1) := by decide +kernel
theorem d7_begin_95 : decode b7_begin 95 = .ok (.if_icmp .eq 7, 3) := by decide +kernel
theorem d7_begin_98 : decode b7_begin 98 = .ok (.iconst 1, 1) := by decide +kernel
theorem d7_begin_99 : decode b7_begin 99 = .ok (.goto 4, 3) := by decide +kernel
theorem d7_begin_102 : decode b7_begin 102 = .ok (.iconst 0, 1) := by decide +kernel
theorem d7_begin_103 : decode b7_begin 103 = .ok (.istore 5, 2) := by decide +kernel
theorem d7_begin_105 : decode b7_begin 105 = .ok (.aload_n 0, 1) := by decide +kernel
theorem d7_begin_106 : decode b7_begin 106 = .ok (.getfield 26, 3) := by decide +kernel
theorem d7_begin_109 : decode b7_begin 109 = .ok (.ifCond .ge 8, 3) := by decide +kernel
theorem d7_begin_112 : decode b7_begin 112 = .ok (.bipush (-2), 2) := by decide +kernel
theorem d7_begin_114 : decode b7_begin 114 = .ok (.goto 52, 3) := by decide +kernel
theorem d7_begin_117 : decode b7_begin 117 = .ok (.iload_n 1, 1) := by decide +kernel
theorem d7_begin_118 : decode b7_begin 118 = .ok (.iconst 1, 1) := by decide +kernel
theorem d7_begin_119 : decode b7_begin 119 = .ok (.if_icmp .ne 16, 3) := by decide +kernel
theorem d7_begin_122 : decode b7_begin 122 = .ok (.aload_n 0, 1) := by decide +kernel
theorem d7_begin_123 : decode b7_begin 123 = .ok (.getfield 13, 3) := by decide +kernel
theorem d7_begin_126 : decode b7_begin 126 = .ok (.aload_n 0, 1) := by decide +kernel
theorem d7_begin_127 : decode b7_begin 127 = .ok (.getfield 26, 3) := by decide +kernel
theorem d7_begin_130 : decode b7_begin 130 = .ok (.iaload, 1) := by decide +kernel
theorem d7_begin_131 : decode b7_begin 131 = .ok (.iconst 1, 1) := by decide +kernel
theorem d7_begin_132 : decode b7_begin 132 = .ok (.if_icmp .ne 16, 3) := by decide +kernel
theorem d7_begin_135 : decode b7_begin 135 = .ok (.aload_n 0, 1) := by decide +kernel
theorem d7_begin_136 : decode b7_begin 136 = .ok (.getfield 13, 3) := by decide +kernel
theorem d7_begin_139 : decode b7_begin 139 = .ok (.aload_n 0, 1) := by decide +kernel
theorem d7_begin_140 : decode b7_begin 140 = .ok (.getfield 26, 3) := by decide +kernel
theorem d7_begin_143 : decode b7_begin 143 = .ok (.iaload, 1) := by decide +kernel
theorem d7_begin_144 : decode b7_begin 144 = .ok (.iconst 2, 1) := by decide +kernel
theorem d7_begin_145 : decode b7_begin 145 = .ok (.if_icmp .ne 8, 3) := by decide +kernel
theorem d7_begin_148 : decode b7_begin 148 = .ok (.bipush (-3), 2) := by decide +kernel
theorem d7_begin_150 : decode b7_begin 150 = .ok (.goto 16, 3) := by decide +kernel
theorem d7_begin_153 : decode b7_begin 153 = .ok (.aload_n 0, 1) := by decide +kernel
theorem d7_begin_154 : decode b7_begin 154 = .ok (.getfield 81, 3) := by decide +kernel
theorem d7_begin_157 : decode b7_begin 157 = .ok (.ifCond .lt 8, 3) := by decide +kernel
theorem d7_begin_160 : decode b7_begin 160 = .ok (.bipush (-4), 2) := by decide +kernel
theorem d7_begin_162 : decode b7_begin 162 = .ok (.goto 4, 3) := by decide +kernel
theorem d7_begin_165 : decode b7_begin 165 = .ok (.iconst 0, 1) := by decide +kernel
theorem d7_begin_166 : decode b7_begin 166 = .ok (.istore 6, 2) := by decide +kernel
theorem d7_begin_168 : decode b7_begin 168 = .ok (.iload 6, 2) := by decide +kernel
theorem d7_begin_170 : decode b7_begin 170 = .ok (.ifCond .ne 28, 3) := by decide +kernel
theorem d7_begin_173 : decode b7_begin 173 = .ok (.iload_n 1, 1) := by decide +kernel
theorem d7_begin_174 : decode b7_begin 174 = .ok (.iconst 3, 1) := by decide +kernel
theorem d7_begin_175 : decode b7_begin 175 = .ok (.if_icmp .eq 12, 3) := by decide +kernel
theorem d7_begin_178 : decode b7_begin 178 = .ok (.iload_n 1, 1) := by decide +kernel
theorem d7_begin_179 : decode b7_begin 179 = .ok (.ifCond .ne 19, 3) := by decide +kernel
theorem d7_begin_182 : decode b7_begin 182 = .ok (.iload 5, 2) := by decide +kernel
theorem d7_begin_184 : decode b7_begin 184 = .ok (.ifCond .eq 14, 3) := by decide +kernel
theorem d7_begin_187 : decode b7_begin 187 = .ok (.aload_n 0, 1) := by decide +kernel
theorem d7_begin_188 : decode b7_begin 188 = .ok (.invokevirtual 143, 3) := by decide +kernel
theorem d7_begin_191 : decode b7_begin 191 = .ok (.ifCond .ne 7, 3) := by decide +kernel
theorem d7_begin_194 : decode b7_begin 194 = .ok (.bipush (-5), 2) := by decide +kernel
theorem d7_begin_196 : decode b7_begin 196 = .ok (.istore 6, 2) := by decide +kernel
theorem d7_begin_198 : decode b7_begin 198 = .ok (.iload 6, 2) := by decide +kernel
theorem d7_begin_200 : decode b7_begin 200 = .ok (.ifCond .ne 19, 3) := by decide +kernel
theorem d7_begin_203 : decode b7_begin 203 = .ok (.iload_n 1, 1) := by decide +kernel
theorem d7_begin_204 : decode b7_begin 204 = .ok (.ifCond .ne 15, 3) := by decide +kernel
theorem d7_begin_207 : decode b7_begin 207 = .ok (.aload_n 0, 1) := by decide +kernel
theorem d7_begin_208 : decode b7_begin 208 = .ok (.iload_n 2, 1) := by decide +kernel
theorem d7_begin_209 : decode b7_begin 209 = .ok (.invokevirtual 147, 3) := by decide +kernel
theorem d7_begin_212 : decode b7_begin 212 = .ok (.ifCond .ne 7, 3) := by decide +kernel
theorem d7_begin_215 : decode b7_begin 215 = .ok (.bipush (-6), 2) := by decide +kernel
theorem d7_begin_217 : decode b7_begin 217 = .ok (.istore 6, 2) := by decide +kernel
theorem d7_begin_219 : decode b7_begin 219 = .ok (.iload_n 1, 1) := by decide +kernel
theorem d7_begin_220 : decode b7_begin 220 = .ok (.ifCond .ne 12, 3) := by decide +kernel
theorem d7_begin_223 : decode b7_begin 223 = .ok (.aload_n 0, 1) := by decide +kernel
theorem d7_begin_224 : decode b7_begin 224 = .ok (.iload 4, 2) := by decide +kernel
theorem d7_begin_226 : decode b7_begin 226 = .ok (.invokevirtual 150, 3) := by decide +kernel
theorem d7_begin_229 : decode b7_begin 229 = .ok (.goto 4, 3) := by decide +kernel
theorem d7_begin_232 : decode b7_begin 232 = .ok (.iload_n 2, 1) := by decide +kernel
theorem d7_begin_233 : decode b7_begin 233 = .ok (.istore 7, 2) := by decide +kernel
theorem d7_begin_235 : decode b7_begin 235 = .ok (.iload 6, 2) := by decide +kernel
theorem d7_begin_237 : decode b7_begin 237 = .ok (.ifCond .ne 48, 3) := by decide +kernel
theorem d7_begin_240 : decode b7_begin 240 = .ok (.iload 7, 2) := by decide +kernel
theorem d7_begin_242 : decode b7_begin 242 = .ok (.ifCond .ge 8, 3) := by decide +kernel
theorem d7_begin_245 : decode b7_begin 245 = .ok (.bipush (-7), 2) := by decide +kernel
theorem d7_begin_247 : decode b7_begin 247 = .ok (.goto 36, 3) := by decide +kernel
theorem d7_begin_250 : decode b7_begin 250 = .ok (.aload_n 0, 1) := by decide +kernel
theorem d7_begin_251 : decode b7_begin 251 = .ok (.getfield 130, 3) := by decide +kernel
theorem d7_begin_254 : decode b7_begin 254 = .ok (.sipush 290, 3) := by decide +kernel
theorem d7_begin_257 : decode b7_begin 257 = .ok (.if_icmp .ge 20, 3) := by decide +kernel
theorem d7_begin_260 : decode b7_begin 260 = .ok (.iload_n 1, 1) := by decide +kernel
theorem d7_begin_261 : decode b7_begin 261 = .ok (.iconst 1, 1) := by decide +kernel
theorem d7_begin_262 : decode b7_begin 262 = .ok (.if_icmp .ne 20, 3) := by decide +kernel
theorem d7_begin_265 : decode b7_begin 265 = .ok (.aload_n 0, 1) := by decide +kernel
theorem d7_begin_266 : decode b7_begin 266 = .ok (.getfield 48, 3) := by decide +kernel
theorem d7_begin_269 : decode b7_begin 269 = .ok (.iload 7, 2) := by decide +kernel
theorem d7_begin_271 : decode b7_begin 271 = .ok (.iaload, 1) := by decide +kernel
theorem d7_begin_272 : decode b7_begin 272 = .ok (.bipush 6, 2) := by decide +kernel
theorem d7_begin_274 : decode b7_begin 274 = .ok (.if_icmp .ne 8, 3) := by decide +kernel
theorem d7_begin_277 : decode b7_begin 277 = .ok (.bipush (-8), 2) := by decide +kernel
theorem d7_begin_279 : decode b7_begin 279 = .ok (.goto 4, 3) := by decide +kernel
theorem d7_begin_282 : decode b7_begin 282 = .ok (.iconst 0, 1) := by decide +kernel
theorem d7_begin_283 : decode b7_begin 283 = .ok (.istore 6, 2) := by decide +kernel
theorem d7_begin_285 : decode b7_begin 285 = .ok (.iload 6, 2) := by decide +kernel
theorem d7_begin_287 : decode b7_begin 287 = .ok (.ifCond .ge 6, 3) := by decide +kernel
theorem d7_begin_290 : decode b7_begin 290 = .ok (.iload 6, 2) := by decide +kernel
theorem d7_begin_292 : decode b7_begin 292 = .ok (.ireturn, 1) := by decide +kernel
theorem d7_begin_293 : decode b7_begin 293 = .ok (.aload_n 0, 1) := by decide +kernel
theorem d7_begin_294 : decode b7_begin 294 = .ok (.iload_n 1, 1) := by decide +kernel
theorem d7_begin_295 : decode b7_begin 295 = .ok (.putfield 81, 3) := by decide +kernel
theorem d7_begin_298 : decode b7_begin 298 = .ok (.aload_n 0, 1) := by decide +kernel
theorem d7_begin_299 : decode b7_begin 299 = .ok (.iload 7, 2) := by decide +kernel
theorem d7_begin_301 : decode b7_begin 301 = .ok (.putfield 153, 3) := by decide +kernel
theorem d7_begin_304 : decode b7_begin 304 = .ok (.aload_n 0, 1) := by decide +kernel
theorem d7_begin_305 : decode b7_begin 305 = .ok (.iload_n 1, 1) := by decide +kernel
theorem d7_begin_306 : decode b7_begin 306 = .ok (.ifCond .ne 7, 3) := by decide +kernel
theorem d7_begin_309 : decode b7_begin 309 = .ok (.iload_n 2, 1) := by decide +kernel
theorem d7_begin_310 : decode b7_begin 310 = .ok (.goto 4, 3) := by decide +kernel
theorem d7_begin_313 : decode b7_begin 313 = .ok (.iconst (-1), 1) := by decide +kernel
theorem d7_begin_314 : decode b7_begin 314 = .ok (.putfield 124, 3) := by decide +kernel
theorem d7_begin_317 : decode b7_begin 317 = .ok (.aload_n 0, 1) := by decide +kernel
theorem d7_begin_318 : decode b7_begin 318 = .ok (.aload_n 0, 1) := by decide +kernel
theorem d7_begin_319 : decode b7_begin 319 = .ok (.getfield 100, 3) := by decide +kernel
theorem d7_begin_322 : decode b7_begin 322 = .ok (.putfield 156, 3) := by decide +kernel
theorem d7_begin_325 : decode b7_begin 325 = .ok (.aload_n 0, 1) := by decide +kernel
theorem d7_begin_326 : decode b7_begin 326 = .ok (.iload_n 1, 1) := by decide +kernel
theorem d7_begin_327 : decode b7_begin 327 = .ok (.iconst 2, 1) := by decide +kernel
theorem d7_begin_328 : decode b7_begin 328 = .ok (.if_icmp .eq 8, 3) := by decide +kernel
theorem d7_begin_331 : decode b7_begin 331 = .ok (.iload 5, 2) := by decide +kernel
theorem d7_begin_333 : decode b7_begin 333 = .ok (.ifCond .eq 7, 3) := by decide +kernel
theorem d7_begin_336 : decode b7_begin 336 = .ok (.iconst 1, 1) := by decide +kernel
theorem d7_begin_337 : decode b7_begin 337 = .ok (.goto 4, 3) := by decide +kernel
theorem d7_begin_340 : decode b7_begin 340 = .ok (.iconst 0, 1) := by decide +kernel
theorem d7_begin_341 : decode b7_begin 341 = .ok (.putfield 159, 3) := by decide +kernel
theorem d7_begin_344 : decode b7_begin 344 = .ok (.aload_n 0, 1) := by decide +kernel
theorem d7_begin_345 : decode b7_begin 345 = .ok (.iconst 0, 1) := by decide +kernel
theorem d7_begin_346 : decode b7_begin 346 = .ok (.putfield 163, 3) := by decide +kernel
theorem d7_begin_349 : decode b7_begin 349 = .ok (.aload_n 0, 1) := by decide +kernel
theorem d7_begin_350 : decode b7_begin 350 = .ok (.iconst 0, 1) := by decide +kernel
theorem d7_begin_351 : decode b7_begin 351 = .ok (.putfield 166, 3) := by decide +kernel
theorem d7_begin_354 : decode b7_begin 354 = .ok (.aload_n 0, 1) := by decide +kernel
theorem d7_begin_355 : decode b7_begin 355 = .ok (.aload_n 0, 1) := by decide +kernel
theorem d7_begin_356 : decode b7_begin 356 = .ok (.getfield 100, 3) := by decide +kernel
theorem d7_begin_359 : decode b7_begin 359 = .ok (.putfield 114, 3) := by decide +kernel
theorem d7_begin_362 : decode b7_begin 362 = .ok (.iload 7, 2) := by decide +kernel
theorem d7_begin_364 : decode b7_begin 364 = .ok (.ireturn, 1) := by decide +kernel
theorem d7_count_0 : decode b7_count 0 = .ok (.aload_n 0, 1) := by decide +kernel
theorem d7_count_1 : decode b7_count 1 = .ok (.getfield 81, 3) := by decide +kernel
theorem d7_count_4 : decode b7_count 4 = .ok (.ifCond .lt 29, 3) := by decide +kernel
theorem d7_count_7 : decode b7_count 7 = .ok (.aload_n 0, 1) := by decide +kernel
theorem d7_count_8 : decode b7_count 8 = .ok (.getfield 81, 3) := by decide +kernel
theorem d7_count_11 : decode b7_count 11 = .ok (.iconst 1, 1) := by decide +kernel
theorem d7_count_12 : decode b7_count 12 = .ok (.if_icmp .eq 21, 3) := by decide +kernel
theorem d7_count_15 : decode b7_count 15 = .ok (.aload_n 0, 1) := by decide +kernel
theorem d7_count_16 : decode b7_count 16 = .ok (.getfield 166, 3) := by decide +kernel
theorem d7_count_19 : decode b7_count 19 = .ok (.ifCond .ne 14, 3) := by decide +kernel
theorem d7_count_22 : decode b7_count 22 = .ok (.aload_n 0, 1) := by decide +kernel
theorem d7_count_23 : decode b7_count 23 = .ok (.getfield 163, 3) := by decide +kernel
theorem d7_count_26 : decode b7_count 26 = .ok (.ifCond .ne 7, 3) := by decide +kernel
theorem d7_count_29 : decode b7_count 29 = .ok (.iconst 1, 1) := by decide +kernel
theorem d7_count_30 : decode b7_count 30 = .ok (.goto 4, 3) := by decide +kernel
theorem d7_count_33 : decode b7_count 33 = .ok (.iconst 0, 1) := by decide +kernel
theorem d7_count_34 : decode b7_count 34 = .ok (.istore_n 2, 1) := by decide +kernel
theorem d7_count_35 : decode b7_count 35 = .ok (.iload_n 1, 1) := by decide +kernel
theorem d7_count_36 : decode b7_count 36 = .ok (.iconst 0, 1) := by decide +kernel
theorem d7_count_37 : decode b7_count 37 = .ok (.sipush 10000, 3) := by decide +kernel
theorem d7_count_40 : decode b7_count 40 = .ok (.invokestatic 93, 3) := by decide +kernel
theorem d7_count_43 : decode b7_count 43 = .ok (.ifCond .ne 7, 3) := by decide +kernel
theorem d7_count_46 : decode b7_count 46 = .ok (.iconst (-1), 1) := by decide +kernel
theorem d7_count_47 : decode b7_count 47 = .ok (.goto 40, 3) := by decide +kernel
theorem d7_count_50 : decode b7_count 50 = .ok (.aload_n 0, 1) := by decide +kernel
theorem d7_count_51 : decode b7_count 51 = .ok (.getfield 26, 3) := by decide +kernel
theorem d7_count_54 : decode b7_count 54 = .ok (.ifCond .ge 8, 3) := by decide +kernel
theorem d7_count_57 : decode b7_count 57 = .ok (.bipush (-2), 2) := by decide +kernel
theorem d7_count_59 : decode b7_count 59 = .ok (.goto 28, 3) := by decide +kernel
theorem d7_count_62 : decode b7_count 62 = .ok (.iload_n 2, 1) := by decide +kernel
theorem d7_count_63 : decode b7_count 63 = .ok (.ifCond .ne 8, 3) := by decide +kernel
theorem d7_count_66 : decode b7_count 66 = .ok (.bipush (-4), 2) := by decide +kernel
theorem d7_count_68 : decode b7_count 68 = .ok (.goto 19, 3) := by decide +kernel
theorem d7_count_71 : decode b7_count 71 = .ok (.aload_n 0, 1) := by decide +kernel
theorem d7_count_72 : decode b7_count 72 = .ok (.getfield 130, 3) := by decide +kernel
theorem d7_count_75 : decode b7_count 75 = .ok (.sipush 300, 3) := by decide +kernel
theorem d7_count_78 : decode b7_count 78 = .ok (.if_icmp .ne 8, 3) := by decide +kernel
theorem d7_count_81 : decode b7_count 81 = .ok (.bipush (-8), 2) := by decide +kernel
theorem d7_count_83 : decode b7_count 83 = .ok (.goto 4, 3) := by decide +kernel
theorem d7_count_86 : decode b7_count 86 = .ok (.iconst 0, 1) := by decide +kernel
theorem d7_count_87 : decode b7_count 87 = .ok (.istore_n 3, 1) := by decide +kernel
theorem d7_count_88 : decode b7_count 88 = .ok (.iload_n 3, 1) := by decide +kernel
theorem d7_count_89 : decode b7_count 89 = .ok (.ifCond .ge 5, 3) := by decide +kernel
theorem d7_count_92 : decode b7_count 92 = .ok (.iload_n 3, 1) := by decide +kernel
theorem d7_count_93 : decode b7_count 93 = .ok (.ireturn, 1) := by decide +kernel
theorem d7_count_94 : decode b7_count 94 = .ok (.aload_n 0, 1) := by decide +kernel
theorem d7_count_95 : decode b7_count 95 = .ok (.getfield 153, 3) := by decide +kernel
theorem d7_count_98 : decode b7_count 98 = .ok (.istore 4, 2) := by decide +kernel
theorem d7_count_100 : decode b7_count 100 = .ok (.iload_n 1, 1) := by decide +kernel
theorem d7_count_101 : decode b7_count 101 = .ok (.aload_n 0, 1) := by decide +kernel
theorem d7_count_102 : decode b7_count 102 = .ok (.iload 4, 2) := by decide +kernel
theorem d7_count_104 : decode b7_count 104 = .ok (.invokevirtual 169, 3) := by decide +kernel
theorem d7_count_107 : decode b7_count 107 = .ok (.isub, 1) := by decide +kernel
theorem d7_count_108 : decode b7_count 108 = .ok (.istore 5, 2) := by decide +kernel
theorem d7_count_110 : decode b7_count 110 = .ok (.iload 5, 2) := by decide +kernel
theorem d7_count_112 : decode b7_count 112 = .ok (.ifCond .ge 16, 3) := by decide +kernel
theorem d7_count_115 : decode b7_count 115 = .ok (.aload_n 0, 1) := by decide +kernel
theorem d7_count_116 : decode b7_count 116 = .ok (.iload 4, 2) := by decide +kernel
theorem d7_count_118 : decode b7_count 118 = .ok (.iload 5, 2) := by decide +kernel
theorem d7_count_120 : decode b7_count 120 = .ok (.ineg, 1) := by decide +kernel
theorem d7_count_121 : decode b7_count 121 = .ok (.iconst 1, 1) := by decide +kernel
theorem d7_count_122 : decode b7_count 122 = .ok (.invokevirtual 172, 3) := by decide +kernel
theorem d7_count_125 : decode b7_count 125 = .ok (.goto 63, 3) := by decide +kernel
theorem d7_count_128 : decode b7_count 128 = .ok (.iload 5, 2) := by decide +kernel
theorem d7_count_130 : decode b7_count 130 = .ok (.ifCond .le 28, 3) := by decide +kernel
theorem d7_count_133 : decode b7_count 133 = .ok (.aload_n 0, 1) := by decide +kernel
theorem d7_count_134 : decode b7_count 134 = .ok (.getfield 48, 3) := by decide +kernel
theorem d7_count_137 : decode b7_count 137 = .ok (.iload 4, 2) := by decide +kernel
theorem d7_count_139 : decode b7_count 139 = .ok (.iaload, 1) := by decide +kernel
theorem d7_count_140 : decode b7_count 140 = .ok (.ifCond .ne 18, 3) := by decide +kernel
theorem d7_count_143 : decode b7_count 143 = .ok (.aload_n 0, 1) := by decide +kernel
theorem d7_count_144 : decode b7_count 144 = .ok (.iload 4, 2) := by decide +kernel
theorem d7_count_146 : decode b7_count 146 = .ok (.aload_n 0, 1) := by decide +kernel
theorem d7_count_147 : decode b7_count 147 = .ok (.getfield 100, 3) := by decide +kernel
theorem d7_count_150 : decode b7_count 150 = .ok (.iload 5, 2) := by decide +kernel
theorem d7_count_152 : decode b7_count 152 = .ok (.invokevirtual 176, 3) := by decide +kernel
theorem d7_count_155 : decode b7_count 155 = .ok (.goto 33, 3) := by decide +kernel
theorem d7_count_158 : decode b7_count 158 = .ok (.iload 5, 2) := by decide +kernel
theorem d7_count_160 : decode b7_count 160 = .ok (.ifCond .le 28, 3) := by decide +kernel
theorem d7_count_163 : decode b7_count 163 = .ok (.aload_n 0, 1) := by decide +kernel
theorem d7_count_164 : decode b7_count 164 = .ok (.getfield 51, 3) := by decide +kernel
theorem d7_count_167 : decode b7_count 167 = .ok (.bipush 6, 2) := by decide +kernel
theorem d7_count_169 : decode b7_count 169 = .ok (.iload 4, 2) := by decide +kernel
theorem d7_count_171 : decode b7_count 171 = .ok (.imul, 1) := by decide +kernel
theorem d7_count_172 : decode b7_count 172 = .ok (.aload_n 0, 1) := by decide +kernel
theorem d7_count_173 : decode b7_count 173 = .ok (.getfield 48, 3) := by decide +kernel
theorem d7_count_176 : decode b7_count 176 = .ok (.iload 4, 2) := by decide +kernel
theorem d7_count_178 : decode b7_count 178 = .ok (.iaload, 1) := by decide +kernel
theorem d7_count_179 : decode b7_count 179 = .ok (.iadd, 1) := by decide +kernel
theorem d7_count_180 : decode b7_count 180 = .ok (.iconst 1, 1) := by decide +kernel
theorem d7_count_181 : decode b7_count 181 = .ok (.isub, 1) := by decide +kernel
theorem d7_count_182 : decode b7_count 182 = .ok (.dup2, 1) := by decide +kernel
theorem d7_count_183 : decode b7_count 183 = .ok (.iaload, 1) := by decide +kernel
theorem d7_count_184 : decode b7_count 184 = .ok (.iload 5, 2) := by decide +kernel
theorem d7_count_186 : decode b7_count 186 = .ok (.iadd, 1) := by decide +kernel
theorem d7_count_187 : decode b7_count 187 = .ok (.iastore, 1) := by decide +kernel
theorem d7_count_188 : decode b7_count 188 = .ok (.aload_n 0, 1) := by decide +kernel
theorem d7_count_189 : decode b7_count 189 = .ok (.getfield 57, 3) := by decide +kernel
theorem d7_count_192 : decode b7_count 192 = .ok (.iload 4, 2) := by decide +kernel
theorem d7_count_194 : decode b7_count 194 = .ok (.iload 5, 2) := by decide +kernel
theorem d7_count_196 : decode b7_count 196 = .ok (.iastore, 1) := by decide +kernel
theorem d7_count_197 : decode b7_count 197 = .ok (.aload_n 0, 1) := by decide +kernel
theorem d7_count_198 : decode b7_count 198 = .ok (.getfield 60, 3) := by decide +kernel
theorem d7_count_201 : decode b7_count 201 = .ok (.iload 4, 2) := by decide +kernel
theorem d7_count_203 : decode b7_count 203 = .ok (.iconst 1, 1) := by decide +kernel
theorem d7_count_204 : decode b7_count 204 = .ok (.bastore, 1) := by decide +kernel
theorem d7_count_205 : decode b7_count 205 = .ok (.aload_n 0, 1) := by decide +kernel
theorem d7_count_206 : decode b7_count 206 = .ok (.iconst 1, 1) := by decide +kernel
theorem d7_count_207 : decode b7_count 207 = .ok (.putfield 163, 3) := by decide +kernel
theorem d7_count_210 : decode b7_count 210 = .ok (.aload_n 0, 1) := by decide +kernel
theorem d7_count_211 : decode b7_count 211 = .ok (.iconst 3, 1) := by decide +kernel
theorem d7_count_212 : decode b7_count 212 = .ok (.iload 4, 2) := by decide +kernel
theorem d7_count_214 : decode b7_count 214 = .ok (.iload 5, 2) := by decide +kernel
theorem d7_count_216 : decode b7_count 216 = .ok (.aload_n 0, 1) := by decide +kernel
theorem d7_count_217 : decode b7_count 217 = .ok (.getfield 124, 3) := by decide +kernel
theorem d7_count_220 : decode b7_count 220 = .ok (.invokevirtual 180, 3) := by decide +kernel
theorem d7_count_223 : decode b7_count 223 = .ok (.iload 5, 2) := by decide +kernel
theorem d7_count_225 : decode b7_count 225 = .ok (.ireturn, 1) := by decide +kernel
theorem d7_refusal_0 : decode b7_refusal 0 = .ok (.aload_n 0, 1) := by decide +kernel
theorem d7_refusal_1 : decode b7_refusal 1 = .ok (.getfield 153, 3) := by decide +kernel
theorem d7_refusal_4 : decode b7_refusal 4 = .ok (.istore 4, 2) := by decide +kernel
theorem d7_refusal_6 : decode b7_refusal 6 = .ok (.aload_n 0, 1) := by decide +kernel
theorem d7_refusal_7 : decode b7_refusal 7 = .ok (.iload_n 2, 1) := by decide +kernel
theorem d7_refusal_8 : decode b7_refusal 8 = .ok (.invokevirtual 117, 3) := by decide +kernel
theorem d7_refusal_11 : decode b7_refusal 11 = .ok (.ifCond .eq 19, 3) := by decide +kernel
theorem d7_refusal_14 : decode b7_refusal 14 = .ok (.iload_n 3, 1) := by decide +kernel
theorem d7_refusal_15 : decode b7_refusal 15 = .ok (.aload_n 0, 1) := by decide +kernel
theorem d7_refusal_16 : decode b7_refusal 16 = .ok (.getfield 100, 3) := by decide +kernel
theorem d7_refusal_19 : decode b7_refusal 19 = .ok (.if_icmp .le 11, 3) := by decide +kernel
theorem d7_refusal_22 : decode b7_refusal 22 = .ok (.iload_n 1, 1) := by decide +kernel
theorem d7_refusal_23 : decode b7_refusal 23 = .ok (.ifCond .le 7, 3) := by decide +kernel
theorem d7_refusal_26 : decode b7_refusal 26 = .ok (.iconst 1, 1) := by decide +kernel
theorem d7_refusal_27 : decode b7_refusal 27 = .ok (.goto 4, 3) := by decide +kernel
theorem d7_refusal_30 : decode b7_refusal 30 = .ok (.iconst 0, 1) := by decide +kernel
theorem d7_refusal_31 : decode b7_refusal 31 = .ok (.istore 5, 2) := by decide +kernel
theorem d7_refusal_33 : decode b7_refusal 33 = .ok (.aload_n 0, 1) := by decide +kernel
theorem d7_refusal_34 : decode b7_refusal 34 = .ok (.getfield 81, 3) := by decide +kernel
theorem d7_refusal_37 : decode b7_refusal 37 = .ok (.iconst 1, 1) := by decide +kernel
theorem d7_refusal_38 : decode b7_refusal 38 = .ok (.if_icmp .ne 36, 3) := by decide +kernel
theorem d7_refusal_41 : decode b7_refusal 41 = .ok (.iload 5, 2) := by decide +kernel
theorem d7_refusal_43 : decode b7_refusal 43 = .ok (.ifCond .eq 28, 3) := by decide +kernel
theorem d7_refusal_46 : decode b7_refusal 46 = .ok (.aload_n 0, 1) := by decide +kernel
theorem d7_refusal_47 : decode b7_refusal 47 = .ok (.getfield 45, 3) := by decide +kernel
theorem d7_refusal_50 : decode b7_refusal 50 = .ok (.iload 4, 2) := by decide +kernel
theorem d7_refusal_52 : decode b7_refusal 52 = .ok (.iaload, 1) := by decide +kernel
theorem d7_refusal_53 : decode b7_refusal 53 = .ok (.ifCond .lt 14, 3) := by decide +kernel
theorem d7_refusal_56 : decode b7_refusal 56 = .ok (.aload_n 0, 1) := by decide +kernel
theorem d7_refusal_57 : decode b7_refusal 57 = .ok (.getfield 45, 3) := by decide +kernel
theorem d7_refusal_60 : decode b7_refusal 60 = .ok (.iload 4, 2) := by decide +kernel
theorem d7_refusal_62 : decode b7_refusal 62 = .ok (.iaload, 1) := by decide +kernel
theorem d7_refusal_63 : decode b7_refusal 63 = .ok (.iload_n 2, 1) := by decide +kernel
theorem d7_refusal_64 : decode b7_refusal 64 = .ok (.if_icmp .ne 7, 3) := by decide +kernel
theorem d7_refusal_67 : decode b7_refusal 67 = .ok (.iconst 1, 1) := by decide +kernel
theorem d7_refusal_68 : decode b7_refusal 68 = .ok (.goto 4, 3) := by decide +kernel
theorem d7_refusal_71 : decode b7_refusal 71 = .ok (.iconst 0, 1) := by decide +kernel
theorem d7_refusal_72 : decode b7_refusal 72 = .ok (.istore 5, 2) := by decide +kernel
theorem d7_refusal_74 : decode b7_refusal 74 = .ok (.iload_n 1, 1) := by decide +kernel
theorem d7_refusal_75 : decode b7_refusal 75 = .ok (.iconst 0, 1) := by decide +kernel
theorem d7_refusal_76 : decode b7_refusal 76 = .ok (.sipush 1000, 3) := by decide +kernel
theorem d7_refusal_79 : decode b7_refusal 79 = .ok (.invokestatic 93, 3) := by decide +kernel
theorem d7_refusal_82 : decode b7_refusal 82 = .ok (.ifCond .eq 16, 3) := by decide +kernel
theorem d7_refusal_85 : decode b7_refusal 85 = .ok (.aload_n 0, 1) := by decide +kernel
theorem d7_refusal_86 : decode b7_refusal 86 = .ok (.getfield 81, 3) := by decide +kernel
theorem d7_refusal_89 : decode b7_refusal 89 = .ok (.iconst 1, 1) := by decide +kernel
theorem d7_refusal_90 : decode b7_refusal 90 = .ok (.if_icmp .ne 10, 3) := by decide +kernel
theorem d7_refusal_93 : decode b7_refusal 93 = .ok (.iload 5, 2) := by decide +kernel
theorem d7_refusal_95 : decode b7_refusal 95 = .ok (.ifCond .ne 5, 3) := by decide +kernel
theorem d7_refusal_98 : decode b7_refusal 98 = .ok (.iconst (-1), 1) := by decide +kernel
theorem d7_refusal_99 : decode b7_refusal 99 = .ok (.ireturn, 1) := by decide +kernel
theorem d7_refusal_100 : decode b7_refusal 100 = .ok (.aload_n 0, 1) := by decide +kernel
theorem d7_refusal_101 : decode b7_refusal 101 = .ok (.getfield 26, 3) := by decide +kernel
theorem d7_refusal_104 : decode b7_refusal 104 = .ok (.ifCond .ge 6, 3) := by decide +kernel
theorem d7_refusal_107 : decode b7_refusal 107 = .ok (.bipush (-2), 2) := by decide +kernel
theorem d7_refusal_109 : decode b7_refusal 109 = .ok (.ireturn, 1) := by decide +kernel
theorem d7_refusal_110 : decode b7_refusal 110 = .ok (.aload_n 0, 1) := by decide +kernel
theorem d7_refusal_111 : decode b7_refusal 111 = .ok (.getfield 81, 3) := by decide +kernel
theorem d7_refusal_114 : decode b7_refusal 114 = .ok (.ifCond .lt 32, 3) := by decide +kernel
theorem d7_refusal_117 : decode b7_refusal 117 = .ok (.aload_n 0, 1) := by decide +kernel
theorem d7_refusal_118 : decode b7_refusal 118 = .ok (.getfield 81, 3) := by decide +kernel
theorem d7_refusal_121 : decode b7_refusal 121 = .ok (.iconst 2, 1) := by decide +kernel
theorem d7_refusal_122 : decode b7_refusal 122 = .ok (.if_icmp .eq 24, 3) := by decide +kernel
theorem d7_refusal_125 : decode b7_refusal 125 = .ok (.aload_n 0, 1) := by decide +kernel
theorem d7_refusal_126 : decode b7_refusal 126 = .ok (.getfield 159, 3) := by decide +kernel
theorem d7_refusal_129 : decode b7_refusal 129 = .ok (.ifCond .eq 10, 3) := by decide +kernel
theorem d7_refusal_132 : decode b7_refusal 132 = .ok (.aload_n 0, 1) := by decide +kernel
theorem d7_refusal_133 : decode b7_refusal 133 = .ok (.getfield 163, 3) := by decide +kernel
theorem d7_refusal_136 : decode b7_refusal 136 = .ok (.ifCond .eq 10, 3) := by decide +kernel
theorem d7_refusal_139 : decode b7_refusal 139 = .ok (.aload_n 0, 1) := by decide +kernel
theorem d7_refusal_140 : decode b7_refusal 140 = .ok (.getfield 166, 3) := by decide +kernel
theorem d7_refusal_143 : decode b7_refusal 143 = .ok (.ifCond .eq 6, 3) := by decide +kernel
theorem d7_refusal_146 : decode b7_refusal 146 = .ok (.bipush (-4), 2) := by decide +kernel
theorem d7_refusal_148 : decode b7_refusal 148 = .ok (.ireturn, 1) := by decide +kernel
theorem d7_refusal_149 : decode b7_refusal 149 = .ok (.aload_n 0, 1) := by decide +kernel
theorem d7_refusal_150 : decode b7_refusal 150 = .ok (.getfield 81, 3) := by decide +kernel
theorem d7_refusal_153 : decode b7_refusal 153 = .ok (.ifCond .ne 19, 3) := by decide +kernel
theorem d7_refusal_156 : decode b7_refusal 156 = .ok (.iload_n 1, 1) := by decide +kernel
theorem d7_refusal_157 : decode b7_refusal 157 = .ok (.aload_n 0, 1) := by decide +kernel
theorem d7_refusal_158 : decode b7_refusal 158 = .ok (.getfield 66, 3) := by decide +kernel
theorem d7_refusal_161 : decode b7_refusal 161 = .ok (.aload_n 0, 1) := by decide +kernel
theorem d7_refusal_162 : decode b7_refusal 162 = .ok (.getfield 124, 3) := by decide +kernel
theorem d7_refusal_165 : decode b7_refusal 165 = .ok (.iaload, 1) := by decide +kernel
theorem d7_refusal_166 : decode b7_refusal 166 = .ok (.if_icmp .le 6, 3) := by decide +kernel
theorem d7_refusal_169 : decode b7_refusal 169 = .ok (.bipush (-6), 2) := by decide +kernel
theorem d7_refusal_171 : decode b7_refusal 171 = .ok (.ireturn, 1) := by decide +kernel
theorem d7_refusal_172 : decode b7_refusal 172 = .ok (.aload_n 0, 1) := by decide +kernel
theorem d7_refusal_173 : decode b7_refusal 173 = .ok (.getfield 81, 3) := by decide +kernel
theorem d7_refusal_176 : decode b7_refusal 176 = .ok (.ifCond .ne 12, 3) := by decide +kernel
theorem d7_refusal_179 : decode b7_refusal 179 = .ok (.aload_n 0, 1) := by decide +kernel
theorem d7_refusal_180 : decode b7_refusal 180 = .ok (.iload 4, 2) := by decide +kernel
theorem d7_refusal_182 : decode b7_refusal 182 = .ok (.invokevirtual 133, 3) := by decide +kernel
theorem d7_refusal_185 : decode b7_refusal 185 = .ok (.goto 21, 3) := by decide +kernel
theorem d7_refusal_188 : decode b7_refusal 188 = .ok (.aload_n 0, 1) := by decide +kernel
theorem d7_refusal_189 : decode b7_refusal 189 = .ok (.getfield 81, 3) := by decide +kernel
theorem d7_refusal_192 : decode b7_refusal 192 = .ok (.iconst 3, 1) := by decide +kernel
theorem d7_refusal_193 : decode b7_refusal 193 = .ok (.if_icmp .ne 12, 3) := by decide +kernel
theorem d7_refusal_196 : decode b7_refusal 196 = .ok (.aload_n 0, 1) := by decide +kernel
theorem d7_refusal_197 : decode b7_refusal 197 = .ok (.iload 4, 2) := by decide +kernel
theorem d7_refusal_199 : decode b7_refusal 199 = .ok (.invokevirtual 169, 3) := by decide +kernel
theorem d7_refusal_202 : decode b7_refusal 202 = .ok (.goto 4, 3) := by decide +kernel
theorem d7_refusal_205 : decode b7_refusal 205 = .ok (.iload_n 1, 1) := by decide +kernel
theorem d7_refusal_206 : decode b7_refusal 206 = .ok (.istore 6, 2) := by decide +kernel
theorem d7_refusal_208 : decode b7_refusal 208 = .ok (.iload_n 1, 1) := by decide +kernel
theorem d7_refusal_209 : decode b7_refusal 209 = .ok (.iload 6, 2) := by decide +kernel
theorem d7_refusal_211 : decode b7_refusal 211 = .ok (.if_icmp .le 8, 3) := by decide +kernel
theorem d7_refusal_214 : decode b7_refusal 214 = .ok (.bipush (-7), 2) := by decide +kernel
theorem d7_refusal_216 : decode b7_refusal 216 = .ok (.goto 19, 3) := by decide +kernel
theorem d7_refusal_219 : decode b7_refusal 219 = .ok (.aload_n 0, 1) := by decide +kernel
theorem d7_refusal_220 : decode b7_refusal 220 = .ok (.getfield 130, 3) := by decide +kernel
theorem d7_refusal_223 : decode b7_refusal 223 = .ok (.sipush 300, 3) := by decide +kernel
theorem d7_refusal_226 : decode b7_refusal 226 = .ok (.if_icmp .ne 8, 3) := by decide +kernel
theorem d7_refusal_229 : decode b7_refusal 229 = .ok (.bipush (-8), 2) := by decide +kernel
theorem d7_refusal_231 : decode b7_refusal 231 = .ok (.goto 4, 3) := by decide +kernel
theorem d7_refusal_234 : decode b7_refusal 234 = .ok (.iconst 0, 1) := by decide +kernel
theorem d7_refusal_235 : decode b7_refusal 235 = .ok (.ireturn, 1) := by decide +kernel
theorem d7_amount_0 : decode b7_amount 0 = .ok (.aload_n 0, 1) := by decide +kernel
theorem d7_amount_1 : decode b7_amount 1 = .ok (.iload_n 1, 1) := by decide +kernel
theorem d7_amount_2 : decode b7_amount 2 = .ok (.iload_n 2, 1) := by decide +kernel
theorem d7_amount_3 : decode b7_amount 3 = .ok (.iload_n 3, 1) := by decide +kernel
theorem d7_amount_4 : decode b7_amount 4 = .ok (.invokevirtual 184, 3) := by decide +kernel
theorem d7_amount_7 : decode b7_amount 7 = .ok (.istore 4, 2) := by decide +kernel
theorem d7_amount_9 : decode b7_amount 9 = .ok (.iload 4, 2) := by decide +kernel
theorem d7_amount_11 : decode b7_amount 11 = .ok (.bipush (-7), 2) := by decide +kernel
theorem d7_amount_13 : decode b7_amount 13 = .ok (.if_icmp .ne 13, 3) := by decide +kernel
theorem d7_amount_16 : decode b7_amount 16 = .ok (.aload_n 0, 1) := by decide +kernel
theorem d7_amount_17 : decode b7_amount 17 = .ok (.iconst 1, 1) := by decide +kernel
theorem d7_amount_18 : decode b7_amount 18 = .ok (.putfield 159, 3) := by decide +kernel
theorem d7_amount_21 : decode b7_amount 21 = .ok (.aload_n 0, 1) := by decide +kernel
theorem d7_amount_22 : decode b7_amount 22 = .ok (.iconst 0, 1) := by decide +kernel
theorem d7_amount_23 : decode b7_amount 23 = .ok (.putfield 163, 3) := by decide +kernel
theorem d7_amount_26 : decode b7_amount 26 = .ok (.iload 4, 2) := by decide +kernel
theorem d7_amount_28 : decode b7_amount 28 = .ok (.ifCond .ge 6, 3) := by decide +kernel
theorem d7_amount_31 : decode b7_amount 31 = .ok (.iload 4, 2) := by decide +kernel
theorem d7_amount_33 : decode b7_amount 33 = .ok (.ireturn, 1) := by decide +kernel
theorem d7_amount_34 : decode b7_amount 34 = .ok (.aload_n 0, 1) := by decide +kernel
theorem d7_amount_35 : decode b7_amount 35 = .ok (.getfield 153, 3) := by decide +kernel
theorem d7_amount_38 : decode b7_amount 38 = .ok (.istore 5, 2) := by decide +kernel
theorem d7_amount_40 : decode b7_amount 40 = .ok (.aload_n 0, 1) := by decide +kernel
theorem d7_amount_41 : decode b7_amount 41 = .ok (.iconst 1, 1) := by decide +kernel
theorem d7_amount_42 : decode b7_amount 42 = .ok (.putfield 166, 3) := by decide +kernel
theorem d7_amount_45 : decode b7_amount 45 = .ok (.aload_n 0, 1) := by decide +kernel
theorem d7_amount_46 : decode b7_amount 46 = .ok (.getfield 81, 3) := by decide +kernel
theorem d7_amount_49 : decode b7_amount 49 = .ok (.iconst 1, 1) := by decide +kernel
theorem d7_amount_50 : decode b7_amount 50 = .ok (.if_icmp .ne 31, 3) := by decide +kernel
theorem d7_amount_53 : decode b7_amount 53 = .ok (.aload_n 0, 1) := by decide +kernel
theorem d7_amount_54 : decode b7_amount 54 = .ok (.getfield 45, 3) := by decide +kernel
theorem d7_amount_57 : decode b7_amount 57 = .ok (.iload 5, 2) := by decide +kernel
theorem d7_amount_59 : decode b7_amount 59 = .ok (.iload_n 2, 1) := by decide +kernel
theorem d7_amount_60 : decode b7_amount 60 = .ok (.iastore, 1) := by decide +kernel
theorem d7_amount_61 : decode b7_amount 61 = .ok (.aload_n 0, 1) := by decide +kernel
theorem d7_amount_62 : decode b7_amount 62 = .ok (.iload 5, 2) := by decide +kernel
theorem d7_amount_64 : decode b7_amount 64 = .ok (.iload_n 3, 1) := by decide +kernel
theorem d7_amount_65 : decode b7_amount 65 = .ok (.iload_n 1, 1) := by decide +kernel
theorem d7_amount_66 : decode b7_amount 66 = .ok (.invokevirtual 176, 3) := by decide +kernel
theorem d7_amount_69 : decode b7_amount 69 = .ok (.aload_n 0, 1) := by decide +kernel
theorem d7_amount_70 : decode b7_amount 70 = .ok (.iconst 1, 1) := by decide +kernel
theorem d7_amount_71 : decode b7_amount 71 = .ok (.iload 5, 2) := by decide +kernel
theorem d7_amount_73 : decode b7_amount 73 = .ok (.iload_n 1, 1) := by decide +kernel
theorem d7_amount_74 : decode b7_amount 74 = .ok (.iconst (-1), 1) := by decide +kernel
theorem d7_amount_75 : decode b7_amount 75 = .ok (.invokevirtual 180, 3) := by decide +kernel
theorem d7_amount_78 : decode b7_amount 78 = .ok (.goto 46, 3) := by decide +kernel
theorem d7_amount_81 : decode b7_amount 81 = .ok (.aload_n 0, 1) := by decide +kernel
theorem d7_amount_82 : decode b7_amount 82 = .ok (.iload 5, 2) := by decide +kernel
theorem d7_amount_84 : decode b7_amount 84 = .ok (.iload_n 1, 1) := by decide +kernel
theorem d7_amount_85 : decode b7_amount 85 = .ok (.aload_n 0, 1) := by decide +kernel
theorem d7_amount_86 : decode b7_amount 86 = .ok (.getfield 81, 3) := by decide +kernel
theorem d7_amount_89 : decode b7_amount 89 = .ok (.iconst 3, 1) := by decide +kernel
theorem d7_amount_90 : decode b7_amount 90 = .ok (.if_icmp .ne 7, 3) := by decide +kernel
theorem d7_amount_93 : decode b7_amount 93 = .ok (.iconst 1, 1) := by decide +kernel
theorem d7_amount_94 : decode b7_amount 94 = .ok (.goto 4, 3) := by decide +kernel
theorem d7_amount_97 : decode b7_amount 97 = .ok (.iconst 0, 1) := by decide +kernel
theorem d7_amount_98 : decode b7_amount 98 = .ok (.invokevirtual 172, 3) := by decide +kernel
theorem d7_amount_101 : decode b7_amount 101 = .ok (.aload_n 0, 1) := by decide +kernel
theorem d7_amount_102 : decode b7_amount 102 = .ok (.aload_n 0, 1) := by decide +kernel
theorem d7_amount_103 : decode b7_amount 103 = .ok (.getfield 81, 3) := by decide +kernel
theorem d7_amount_106 : decode b7_amount 106 = .ok (.ifCond .ne 7, 3) := by decide +kernel
theorem d7_amount_109 : decode b7_amount 109 = .ok (.iconst 2, 1) := by decide +kernel
theorem d7_amount_110 : decode b7_amount 110 = .ok (.goto 4, 3) := by decide +kernel
theorem d7_amount_113 : decode b7_amount 113 = .ok (.iconst 4, 1) := by decide +kernel
theorem d7_amount_114 : decode b7_amount 114 = .ok (.iload 5, 2) := by decide +kernel
theorem d7_amount_116 : decode b7_amount 116 = .ok (.iload_n 1, 1) := by decide +kernel
theorem d7_amount_117 : decode b7_amount 117 = .ok (.aload_n 0, 1) := by decide +kernel
theorem d7_amount_118 : decode b7_amount 118 = .ok (.getfield 124, 3) := by decide +kernel
theorem d7_amount_121 : decode b7_amount 121 = .ok (.invokevirtual 180, 3) := by decide +kernel
theorem d7_amount_124 : decode b7_amount 124 = .ok (.aload_n 0, 1) := by decide +kernel
theorem d7_amount_125 : decode b7_amount 125 = .ok (.getfield 81, 3) := by decide +kernel
theorem d7_amount_128 : decode b7_amount 128 = .ok (.ifCond .ne 33, 3) := by decide +kernel
theorem d7_amount_131 : decode b7_amount 131 = .ok (.iload_n 1, 1) := by decide +kernel
theorem d7_amount_132 : decode b7_amount 132 = .ok (.ifCond .le 29, 3) := by decide +kernel
theorem d7_amount_135 : decode b7_amount 135 = .ok (.aload_n 0, 1) := by decide +kernel
theorem d7_amount_136 : decode b7_amount 136 = .ok (.getfield 66, 3) := by decide +kernel
theorem d7_amount_139 : decode b7_amount 139 = .ok (.aload_n 0, 1) := by decide +kernel
theorem d7_amount_140 : decode b7_amount 140 = .ok (.getfield 124, 3) := by decide +kernel
theorem d7_amount_143 : decode b7_amount 143 = .ok (.dup2, 1) := by decide +kernel
theorem d7_amount_144 : decode b7_amount 144 = .ok (.iaload, 1) := by decide +kernel
theorem d7_amount_145 : decode b7_amount 145 = .ok (.iload_n 1, 1) := by decide +kernel
theorem d7_amount_146 : decode b7_amount 146 = .ok (.isub, 1) := by decide +kernel
theorem d7_amount_147 : decode b7_amount 147 = .ok (.iastore, 1) := by decide +kernel
theorem d7_amount_148 : decode b7_amount 148 = .ok (.aload_n 0, 1) := by decide +kernel
theorem d7_amount_149 : decode b7_amount 149 = .ok (.getfield 78, 3) := by decide +kernel
theorem d7_amount_152 : decode b7_amount 152 = .ok (.aload_n 0, 1) := by decide +kernel
theorem d7_amount_153 : decode b7_amount 153 = .ok (.getfield 124, 3) := by decide +kernel
theorem d7_amount_156 : decode b7_amount 156 = .ok (.aload_n 0, 1) := by decide +kernel
theorem d7_amount_157 : decode b7_amount 157 = .ok (.getfield 100, 3) := by decide +kernel
theorem d7_amount_160 : decode b7_amount 160 = .ok (.iastore, 1) := by decide +kernel
theorem d7_amount_161 : decode b7_amount 161 = .ok (.aload_n 0, 1) := by decide +kernel
theorem d7_amount_162 : decode b7_amount 162 = .ok (.iload 5, 2) := by decide +kernel
theorem d7_amount_164 : decode b7_amount 164 = .ok (.invokevirtual 169, 3) := by decide +kernel
theorem d7_amount_167 : decode b7_amount 167 = .ok (.ireturn, 1) := by decide +kernel
theorem d7_shut_0 : decode b7_shut 0 = .ok (.aload_n 0, 1) := by decide +kernel
theorem d7_shut_1 : decode b7_shut 1 = .ok (.getfield 81, 3) := by decide +kernel
theorem d7_shut_4 : decode b7_shut 4 = .ok (.ifCond .lt 18, 3) := by decide +kernel
theorem d7_shut_7 : decode b7_shut 7 = .ok (.aload_n 0, 1) := by decide +kernel
theorem d7_shut_8 : decode b7_shut 8 = .ok (.getfield 81, 3) := by decide +kernel
theorem d7_shut_11 : decode b7_shut 11 = .ok (.iconst 2, 1) := by decide +kernel
theorem d7_shut_12 : decode b7_shut 12 = .ok (.if_icmp .ne 13, 3) := by decide +kernel
theorem d7_shut_15 : decode b7_shut 15 = .ok (.aload_n 0, 1) := by decide +kernel
theorem d7_shut_16 : decode b7_shut 16 = .ok (.getfield 163, 3) := by decide +kernel
theorem d7_shut_19 : decode b7_shut 19 = .ok (.ifCond .ne 6, 3) := by decide +kernel
theorem d7_shut_22 : decode b7_shut 22 = .ok (.bipush (-4), 2) := by decide +kernel
theorem d7_shut_24 : decode b7_shut 24 = .ok (.ireturn, 1) := by decide +kernel
theorem d7_shut_25 : decode b7_shut 25 = .ok (.aload_n 0, 1) := by decide +kernel
theorem d7_shut_26 : decode b7_shut 26 = .ok (.iconst (-1), 1) := by decide +kernel
theorem d7_shut_27 : decode b7_shut 27 = .ok (.putfield 81, 3) := by decide +kernel
theorem d7_shut_30 : decode b7_shut 30 = .ok (.aload_n 0, 1) := by decide +kernel
theorem d7_shut_31 : decode b7_shut 31 = .ok (.aload_n 0, 1) := by decide +kernel
theorem d7_shut_32 : decode b7_shut 32 = .ok (.getfield 100, 3) := by decide +kernel
theorem d7_shut_35 : decode b7_shut 35 = .ok (.putfield 114, 3) := by decide +kernel
theorem d7_shut_38 : decode b7_shut 38 = .ok (.aload_n 0, 1) := by decide +kernel
theorem d7_shut_39 : decode b7_shut 39 = .ok (.getfield 100, 3) := by decide +kernel
theorem d7_shut_42 : decode b7_shut 42 = .ok (.aload_n 0, 1) := by decide +kernel
theorem d7_shut_43 : decode b7_shut 43 = .ok (.getfield 156, 3) := by decide +kernel
theorem d7_shut_46 : decode b7_shut 46 = .ok (.isub, 1) := by decide +kernel
theorem d7_shut_47 : decode b7_shut 47 = .ok (.ireturn, 1) := by decide +kernel
theorem d7_giveBack_0 : decode b7_giveBack 0 = .ok (.aload_n 0, 1) := by decide +kernel
theorem d7_giveBack_1 : decode b7_giveBack 1 = .ok (.iload_n 1, 1) := by decide +kernel
theorem d7_giveBack_2 : decode b7_giveBack 2 = .ok (.invokevirtual 117, 3) := by decide +kernel
theorem d7_giveBack_5 : decode b7_giveBack 5 = .ok (.ifCond .eq 14, 3) := by decide +kernel
theorem d7_giveBack_8 : decode b7_giveBack 8 = .ok (.iload_n 2, 1) := by decide +kernel
theorem d7_giveBack_9 : decode b7_giveBack 9 = .ok (.iconst 1, 1) := by decide +kernel
theorem d7_giveBack_10 : decode b7_giveBack 10 = .ok (.sipush 1000, 3) := by decide +kernel
theorem d7_giveBack_13 : decode b7_giveBack 13 = .ok (.invokestatic 93, 3) := by decide +kernel
theorem d7_giveBack_16 : decode b7_giveBack 16 = .ok (.ifCond .ne 7, 3) := by decide +kernel
theorem d7_giveBack_19 : decode b7_giveBack 19 = .ok (.iconst (-1), 1) := by decide +kernel
theorem d7_giveBack_20 : decode b7_giveBack 20 = .ok (.goto 46, 3) := by decide +kernel
theorem d7_giveBack_23 : decode b7_giveBack 23 = .ok (.aload_n 0, 1) := by decide +kernel
theorem d7_giveBack_24 : decode b7_giveBack 24 = .ok (.getfield 26, 3) := by decide +kernel
theorem d7_giveBack_27 : decode b7_giveBack 27 = .ok (.ifCond .ge 8, 3) := by decide +kernel
theorem d7_giveBack_30 : decode b7_giveBack 30 = .ok (.bipush (-2), 2) := by decide +kernel
theorem d7_giveBack_32 : decode b7_giveBack 32 = .ok (.goto 34, 3) := by decide +kernel
theorem d7_giveBack_35 : decode b7_giveBack 35 = .ok (.aload_n 0, 1) := by decide +kernel
theorem d7_giveBack_36 : decode b7_giveBack 36 = .ok (.getfield 13, 3) := by decide +kernel
theorem d7_giveBack_39 : decode b7_giveBack 39 = .ok (.aload_n 0, 1) := by decide +kernel
theorem d7_giveBack_40 : decode b7_giveBack 40 = .ok (.getfield 26, 3) := by decide +kernel
theorem d7_giveBack_43 : decode b7_giveBack 43 = .ok (.iaload, 1) := by decide +kernel
theorem d7_giveBack_44 : decode b7_giveBack 44 = .ok (.iconst 2, 1) := by decide +kernel
theorem d7_giveBack_45 : decode b7_giveBack 45 = .ok (.if_icmp .ne 8, 3) := by decide +kernel
theorem d7_giveBack_48 : decode b7_giveBack 48 = .ok (.bipush (-3), 2) := by decide +kernel
theorem d7_giveBack_50 : decode b7_giveBack 50 = .ok (.goto 16, 3) := by decide +kernel
theorem d7_giveBack_53 : decode b7_giveBack 53 = .ok (.aload_n 0, 1) := by decide +kernel
theorem d7_giveBack_54 : decode b7_giveBack 54 = .ok (.getfield 81, 3) := by decide +kernel
theorem d7_giveBack_57 : decode b7_giveBack 57 = .ok (.ifCond .lt 8, 3) := by decide +kernel
theorem d7_giveBack_60 : decode b7_giveBack 60 = .ok (.bipush (-4), 2) := by decide +kernel
theorem d7_giveBack_62 : decode b7_giveBack 62 = .ok (.goto 4, 3) := by decide +kernel
theorem d7_giveBack_65 : decode b7_giveBack 65 = .ok (.iconst 0, 1) := by decide +kernel
theorem d7_giveBack_66 : decode b7_giveBack 66 = .ok (.istore_n 3, 1) := by decide +kernel
theorem d7_giveBack_67 : decode b7_giveBack 67 = .ok (.iload_n 3, 1) := by decide +kernel
theorem d7_giveBack_68 : decode b7_giveBack 68 = .ok (.ifCond .ne 41, 3) := by decide +kernel
theorem d7_giveBack_71 : decode b7_giveBack 71 = .ok (.aload_n 0, 1) := by decide +kernel
theorem d7_giveBack_72 : decode b7_giveBack 72 = .ok (.getfield 36, 3) := by decide +kernel
theorem d7_giveBack_75 : decode b7_giveBack 75 = .ok (.iload_n 1, 1) := by decide +kernel
theorem d7_giveBack_76 : decode b7_giveBack 76 = .ok (.baload, 1) := by decide +kernel
theorem d7_giveBack_77 : decode b7_giveBack 77 = .ok (.ifCond .eq 15, 3) := by decide +kernel
theorem d7_giveBack_80 : decode b7_giveBack 80 = .ok (.aload_n 0, 1) := by decide +kernel
theorem d7_giveBack_81 : decode b7_giveBack 81 = .ok (.invokevirtual 143, 3) := by decide +kernel
theorem d7_giveBack_84 : decode b7_giveBack 84 = .ok (.ifCond .ne 8, 3) := by decide +kernel
theorem d7_giveBack_87 : decode b7_giveBack 87 = .ok (.bipush (-5), 2) := by decide +kernel
theorem d7_giveBack_89 : decode b7_giveBack 89 = .ok (.goto 19, 3) := by decide +kernel
theorem d7_giveBack_92 : decode b7_giveBack 92 = .ok (.aload_n 0, 1) := by decide +kernel
theorem d7_giveBack_93 : decode b7_giveBack 93 = .ok (.getfield 130, 3) := by decide +kernel
theorem d7_giveBack_96 : decode b7_giveBack 96 = .ok (.sipush 290, 3) := by decide +kernel
theorem d7_giveBack_99 : decode b7_giveBack 99 = .ok (.if_icmp .lt 8, 3) := by decide +kernel
theorem d7_giveBack_102 : decode b7_giveBack 102 = .ok (.bipush (-8), 2) := by decide +kernel
theorem d7_giveBack_104 : decode b7_giveBack 104 = .ok (.goto 4, 3) := by decide +kernel
theorem d7_giveBack_107 : decode b7_giveBack 107 = .ok (.iconst 0, 1) := by decide +kernel
theorem d7_giveBack_108 : decode b7_giveBack 108 = .ok (.istore_n 3, 1) := by decide +kernel
theorem d7_giveBack_109 : decode b7_giveBack 109 = .ok (.iload_n 3, 1) := by decide +kernel
theorem d7_giveBack_110 : decode b7_giveBack 110 = .ok (.ifCond .ge 5, 3) := by decide +kernel
theorem d7_giveBack_113 : decode b7_giveBack 113 = .ok (.iload_n 3, 1) := by decide +kernel
theorem d7_giveBack_114 : decode b7_giveBack 114 = .ok (.ireturn, 1) := by decide +kernel
theorem d7_giveBack_115 : decode b7_giveBack 115 = .ok (.aload_n 0, 1) := by decide +kernel
theorem d7_giveBack_116 : decode b7_giveBack 116 = .ok (.getfield 42, 3) := by decide +kernel
theorem d7_giveBack_119 : decode b7_giveBack 119 = .ok (.iload_n 1, 1) := by decide +kernel
theorem d7_giveBack_120 : decode b7_giveBack 120 = .ok (.dup2, 1) := by decide +kernel
theorem d7_giveBack_121 : decode b7_giveBack 121 = .ok (.iaload, 1) := by decide +kernel
theorem d7_giveBack_122 : decode b7_giveBack 122 = .ok (.iload_n 2, 1) := by decide +kernel
theorem d7_giveBack_123 : decode b7_giveBack 123 = .ok (.iadd, 1) := by decide +kernel
theorem d7_giveBack_124 : decode b7_giveBack 124 = .ok (.iastore, 1) := by decide +kernel
theorem d7_giveBack_125 : decode b7_giveBack 125 = .ok (.aload_n 0, 1) := by decide +kernel
theorem d7_giveBack_126 : decode b7_giveBack 126 = .ok (.iconst 5, 1) := by decide +kernel
theorem d7_giveBack_127 : decode b7_giveBack 127 = .ok (.iconst (-1), 1) := by decide +kernel
theorem d7_giveBack_128 : decode b7_giveBack 128 = .ok (.iload_n 1, 1) := by decide +kernel
theorem d7_giveBack_129 : decode b7_giveBack 129 = .ok (.isub, 1) := by decide +kernel
theorem d7_giveBack_130 : decode b7_giveBack 130 = .ok (.iload_n 2, 1) := by decide +kernel
theorem d7_giveBack_131 : decode b7_giveBack 131 = .ok (.iconst (-1), 1) := by decide +kernel
theorem d7_giveBack_132 : decode b7_giveBack 132 = .ok (.invokevirtual 180, 3) := by decide +kernel
theorem d7_giveBack_135 : decode b7_giveBack 135 = .ok (.aload_n 0, 1) := by decide +kernel
theorem d7_giveBack_136 : decode b7_giveBack 136 = .ok (.getfield 42, 3) := by decide +kernel
theorem d7_giveBack_139 : decode b7_giveBack 139 = .ok (.iload_n 1, 1) := by decide +kernel
theorem d7_giveBack_140 : decode b7_giveBack 140 = .ok (.iaload, 1) := by decide +kernel
theorem d7_giveBack_141 : decode b7_giveBack 141 = .ok (.ireturn, 1) := by decide +kernel
theorem d7_reconcile_0 : decode b7_reconcile 0 = .ok (.aload_n 0, 1) := by decide +kernel
theorem d7_reconcile_1 : decode b7_reconcile 1 = .ok (.getfield 26, 3) := by decide +kernel
theorem d7_reconcile_4 : decode b7_reconcile 4 = .ok (.ifCond .ge 8, 3) := by decide +kernel
theorem d7_reconcile_7 : decode b7_reconcile 7 = .ok (.bipush (-2), 2) := by decide +kernel
theorem d7_reconcile_9 : decode b7_reconcile 9 = .ok (.goto 61, 3) := by decide +kernel
theorem d7_reconcile_12 : decode b7_reconcile 12 = .ok (.aload_n 0, 1) := by decide +kernel
theorem d7_reconcile_13 : decode b7_reconcile 13 = .ok (.getfield 13, 3) := by decide +kernel
theorem d7_reconcile_16 : decode b7_reconcile 16 = .ok (.aload_n 0, 1) := by decide +kernel
theorem d7_reconcile_17 : decode b7_reconcile 17 = .ok (.getfield 26, 3) := by decide +kernel
theorem d7_reconcile_20 : decode b7_reconcile 20 = .ok (.iaload, 1) := by decide +kernel
theorem d7_reconcile_21 : decode b7_reconcile 21 = .ok (.iconst 2, 1) := by decide +kernel
theorem d7_reconcile_22 : decode b7_reconcile 22 = .ok (.if_icmp .ne 8, 3) := by decide +kernel
theorem d7_reconcile_25 : decode b7_reconcile 25 = .ok (.bipush (-3), 2) := by decide +kernel
theorem d7_reconcile_27 : decode b7_reconcile 27 = .ok (.goto 43, 3) := by decide +kernel
theorem d7_reconcile_30 : decode b7_reconcile 30 = .ok (.aload_n 0, 1) := by decide +kernel
theorem d7_reconcile_31 : decode b7_reconcile 31 = .ok (.getfield 81, 3) := by decide +kernel
theorem d7_reconcile_34 : decode b7_reconcile 34 = .ok (.ifCond .lt 8, 3) := by decide +kernel
theorem d7_reconcile_37 : decode b7_reconcile 37 = .ok (.bipush (-4), 2) := by decide +kernel
theorem d7_reconcile_39 : decode b7_reconcile 39 = .ok (.goto 31, 3) := by decide +kernel
theorem d7_reconcile_42 : decode b7_reconcile 42 = .ok (.aload_n 0, 1) := by decide +kernel
theorem d7_reconcile_43 : decode b7_reconcile 43 = .ok (.invokevirtual 143, 3) := by decide +kernel
theorem d7_reconcile_46 : decode b7_reconcile 46 = .ok (.ifCond .ne 8, 3) := by decide +kernel
theorem d7_reconcile_49 : decode b7_reconcile 49 = .ok (.bipush (-5), 2) := by decide +kernel
theorem d7_reconcile_51 : decode b7_reconcile 51 = .ok (.goto 19, 3) := by decide +kernel
theorem d7_reconcile_54 : decode b7_reconcile 54 = .ok (.aload_n 0, 1) := by decide +kernel
theorem d7_reconcile_55 : decode b7_reconcile 55 = .ok (.getfield 130, 3) := by decide +kernel
theorem d7_reconcile_58 : decode b7_reconcile 58 = .ok (.sipush 290, 3) := by decide +kernel
theorem d7_reconcile_61 : decode b7_reconcile 61 = .ok (.if_icmp .lt 8, 3) := by decide +kernel
theorem d7_reconcile_64 : decode b7_reconcile 64 = .ok (.bipush (-8), 2) := by decide +kernel
theorem d7_reconcile_66 : decode b7_reconcile 66 = .ok (.goto 4, 3) := by decide +kernel
theorem d7_reconcile_69 : decode b7_reconcile 69 = .ok (.iconst 0, 1) := by decide +kernel
theorem d7_reconcile_70 : decode b7_reconcile 70 = .ok (.istore_n 1, 1) := by decide +kernel
theorem d7_reconcile_71 : decode b7_reconcile 71 = .ok (.iload_n 1, 1) := by decide +kernel
theorem d7_reconcile_72 : decode b7_reconcile 72 = .ok (.ifCond .ge 5, 3) := by decide +kernel
theorem d7_reconcile_75 : decode b7_reconcile 75 = .ok (.iload_n 1, 1) := by decide +kernel
theorem d7_reconcile_76 : decode b7_reconcile 76 = .ok (.ireturn, 1) := by decide +kernel
theorem d7_reconcile_77 : decode b7_reconcile 77 = .ok (.aload_n 0, 1) := by decide +kernel
theorem d7_reconcile_78 : decode b7_reconcile 78 = .ok (.iconst 0, 1) := by decide +kernel
theorem d7_reconcile_79 : decode b7_reconcile 79 = .ok (.putfield 188, 3) := by decide +kernel
theorem d7_reconcile_82 : decode b7_reconcile 82 = .ok (.iconst 0, 1) := by decide +kernel
theorem d7_reconcile_83 : decode b7_reconcile 83 = .ok (.istore_n 2, 1) := by decide +kernel
theorem d7_reconcile_84 : decode b7_reconcile 84 = .ok (.iload_n 2, 1) := by decide +kernel
theorem d7_reconcile_85 : decode b7_reconcile 85 = .ok (.bipush 64, 2) := by decide +kernel
theorem d7_reconcile_87 : decode b7_reconcile 87 = .ok (.if_icmp .ge 77, 3) := by decide +kernel
theorem d7_reconcile_90 : decode b7_reconcile 90 = .ok (.aload_n 0, 1) := by decide +kernel
theorem d7_reconcile_91 : decode b7_reconcile 91 = .ok (.getfield 45, 3) := by decide +kernel
theorem d7_reconcile_94 : decode b7_reconcile 94 = .ok (.iload_n 2, 1) := by decide +kernel
theorem d7_reconcile_95 : decode b7_reconcile 95 = .ok (.iaload, 1) := by decide +kernel
theorem d7_reconcile_96 : decode b7_reconcile 96 = .ok (.ifCond .lt 55, 3) := by decide +kernel
theorem d7_reconcile_99 : decode b7_reconcile 99 = .ok (.aload_n 0, 1) := by decide +kernel
theorem d7_reconcile_100 : decode b7_reconcile 100 = .ok (.getfield 57, 3) := by decide +kernel
theorem d7_reconcile_103 : decode b7_reconcile 103 = .ok (.iload_n 2, 1) := by decide +kernel
theorem d7_reconcile_104 : decode b7_reconcile 104 = .ok (.iaload, 1) := by decide +kernel
theorem d7_reconcile_105 : decode b7_reconcile 105 = .ok (.ifCond .ne 26, 3) := by decide +kernel
theorem d7_reconcile_108 : decode b7_reconcile 108 = .ok (.aload_n 0, 1) := by decide +kernel
theorem d7_reconcile_109 : decode b7_reconcile 109 = .ok (.getfield 36, 3) := by decide +kernel
theorem d7_reconcile_112 : decode b7_reconcile 112 = .ok (.aload_n 0, 1) := by decide +kernel
theorem d7_reconcile_113 : decode b7_reconcile 113 = .ok (.getfield 45, 3) := by decide +kernel
theorem d7_reconcile_116 : decode b7_reconcile 116 = .ok (.iload_n 2, 1) := by decide +kernel
theorem d7_reconcile_117 : decode b7_reconcile 117 = .ok (.iaload, 1) := by decide +kernel
theorem d7_reconcile_118 : decode b7_reconcile 118 = .ok (.baload, 1) := by decide +kernel
theorem d7_reconcile_119 : decode b7_reconcile 119 = .ok (.ifCond .eq 32, 3) := by decide +kernel
theorem d7_reconcile_122 : decode b7_reconcile 122 = .ok (.aload_n 0, 1) := by decide +kernel
theorem d7_reconcile_123 : decode b7_reconcile 123 = .ok (.getfield 60, 3) := by decide +kernel
theorem d7_reconcile_126 : decode b7_reconcile 126 = .ok (.iload_n 2, 1) := by decide +kernel
theorem d7_reconcile_127 : decode b7_reconcile 127 = .ok (.baload, 1) := by decide +kernel
theorem d7_reconcile_128 : decode b7_reconcile 128 = .ok (.ifCond .ne 23, 3) := by decide +kernel
theorem d7_reconcile_131 : decode b7_reconcile 131 = .ok (.aload_n 0, 1) := by decide +kernel
theorem d7_reconcile_132 : decode b7_reconcile 132 = .ok (.getfield 90, 3) := by decide +kernel
theorem d7_reconcile_135 : decode b7_reconcile 135 = .ok (.aload_n 0, 1) := by decide +kernel
theorem d7_reconcile_136 : decode b7_reconcile 136 = .ok (.getfield 188, 3) := by decide +kernel
theorem d7_reconcile_139 : decode b7_reconcile 139 = .ok (.iload_n 2, 1) := by decide +kernel
theorem d7_reconcile_140 : decode b7_reconcile 140 = .ok (.iastore, 1) := by decide +kernel
theorem d7_reconcile_141 : decode b7_reconcile 141 = .ok (.aload_n 0, 1) := by decide +kernel
theorem d7_reconcile_142 : decode b7_reconcile 142 = .ok (.dup, 1) := by decide +kernel
theorem d7_reconcile_143 : decode b7_reconcile 143 = .ok (.getfield 188, 3) := by decide +kernel
theorem d7_reconcile_146 : decode b7_reconcile 146 = .ok (.iconst 1, 1) := by decide +kernel
theorem d7_reconcile_147 : decode b7_reconcile 147 = .ok (.iadd, 1) := by decide +kernel
theorem d7_reconcile_148 : decode b7_reconcile 148 = .ok (.putfield 188, 3) := by decide +kernel
theorem d7_reconcile_151 : decode b7_reconcile 151 = .ok (.aload_n 0, 1) := by decide +kernel
theorem d7_reconcile_152 : decode b7_reconcile 152 = .ok (.getfield 60, 3) := by decide +kernel
theorem d7_reconcile_155 : decode b7_reconcile 155 = .ok (.iload_n 2, 1) := by decide +kernel
theorem d7_reconcile_156 : decode b7_reconcile 156 = .ok (.iconst 0, 1) := by decide +kernel
theorem d7_reconcile_157 : decode b7_reconcile 157 = .ok (.bastore, 1) := by decide +kernel
theorem d7_reconcile_158 : decode b7_reconcile 158 = .ok (.iinc 2 1, 3) := by decide +kernel
theorem d7_reconcile_161 : decode b7_reconcile 161 = .ok (.goto (-77), 3) := by decide +kernel
theorem d7_reconcile_164 : decode b7_reconcile 164 = .ok (.aload_n 0, 1) := by decide +kernel
theorem d7_reconcile_165 : decode b7_reconcile 165 = .ok (.bipush 6, 2) := by decide +kernel
theorem d7_reconcile_167 : decode b7_reconcile 167 = .ok (.iconst (-1), 1) := by decide +kernel
theorem d7_reconcile_168 : decode b7_reconcile 168 = .ok (.aload_n 0, 1) := by decide +kernel
theorem d7_reconcile_169 : decode b7_reconcile 169 = .ok (.getfield 188, 3) := by decide +kernel
theorem d7_reconcile_172 : decode b7_reconcile 172 = .ok (.iconst (-1), 1) := by decide +kernel
theorem d7_reconcile_173 : decode b7_reconcile 173 = .ok (.invokevirtual 180, 3) := by decide +kernel
theorem d7_reconcile_176 : decode b7_reconcile 176 = .ok (.aload_n 0, 1) := by decide +kernel
theorem d7_reconcile_177 : decode b7_reconcile 177 = .ok (.getfield 188, 3) := by decide +kernel
theorem d7_reconcile_180 : decode b7_reconcile 180 = .ok (.ireturn, 1) := by decide +kernel
theorem d7_mismatch_0 : decode b7_mismatch 0 = .ok (.iload_n 1, 1) := by decide +kernel
theorem d7_mismatch_1 : decode b7_mismatch 1 = .ok (.iconst 0, 1) := by decide +kernel
theorem d7_mismatch_2 : decode b7_mismatch 2 = .ok (.aload_n 0, 1) := by decide +kernel
theorem d7_mismatch_3 : decode b7_mismatch 3 = .ok (.getfield 188, 3) := by decide +kernel
theorem d7_mismatch_6 : decode b7_mismatch 6 = .ok (.iconst 1, 1) := by decide +kernel
theorem d7_mismatch_7 : decode b7_mismatch 7 = .ok (.isub, 1) := by decide +kernel
theorem d7_mismatch_8 : decode b7_mismatch 8 = .ok (.invokestatic 93, 3) := by decide +kernel
theorem d7_mismatch_11 : decode b7_mismatch 11 = .ok (.ifCond .eq 12, 3) := by decide +kernel
theorem d7_mismatch_14 : decode b7_mismatch 14 = .ok (.aload_n 0, 1) := by decide +kernel
theorem d7_mismatch_15 : decode b7_mismatch 15 = .ok (.getfield 90, 3) := by decide +kernel
theorem d7_mismatch_18 : decode b7_mismatch 18 = .ok (.iload_n 1, 1) := by decide +kernel
theorem d7_mismatch_19 : decode b7_mismatch 19 = .ok (.iaload, 1) := by decide +kernel
theorem d7_mismatch_20 : decode b7_mismatch 20 = .ok (.goto 4, 3) := by decide +kernel
theorem d7_mismatch_23 : decode b7_mismatch 23 = .ok (.iconst (-1), 1) := by decide +kernel
theorem d7_mismatch_24 : decode b7_mismatch 24 = .ok (.ireturn, 1) := by decide +kernel
theorem d7_bin_0 : decode b7_bin 0 = .ok (.iload_n 1, 1) := by decide +kernel
theorem d7_bin_1 : decode b7_bin 1 = .ok (.invokestatic 140, 3) := by decide +kernel
theorem d7_bin_4 : decode b7_bin 4 = .ok (.ifCond .eq 12, 3) := by decide +kernel
theorem d7_bin_7 : decode b7_bin 7 = .ok (.iload_n 2, 1) := by decide +kernel
theorem d7_bin_8 : decode b7_bin 8 = .ok (.iconst 0, 1) := by decide +kernel
theorem d7_bin_9 : decode b7_bin 9 = .ok (.iconst 5, 1) := by decide +kernel
theorem d7_bin_10 : decode b7_bin 10 = .ok (.invokestatic 93, 3) := by decide +kernel
theorem d7_bin_13 : decode b7_bin 13 = .ok (.ifCond .ne 5, 3) := by decide +kernel
theorem d7_bin_16 : decode b7_bin 16 = .ok (.iconst (-1), 1) := by decide +kernel
theorem d7_bin_17 : decode b7_bin 17 = .ok (.ireturn, 1) := by decide +kernel
theorem d7_bin_18 : decode b7_bin 18 = .ok (.iload_n 2, 1) := by decide +kernel
theorem d7_bin_19 : decode b7_bin 19 = .ok (.tableswitch 66 0 4 #[33, 40, 46, 52, 59], 33) := by decide +kernel
theorem d7_bin_52 : decode b7_bin 52 = .ok (.aload_n 0, 1) := by decide +kernel
theorem d7_bin_53 : decode b7_bin 53 = .ok (.getfield 45, 3) := by decide +kernel
theorem d7_bin_56 : decode b7_bin 56 = .ok (.iload_n 1, 1) := by decide +kernel
theorem d7_bin_57 : decode b7_bin 57 = .ok (.iaload, 1) := by decide +kernel
theorem d7_bin_58 : decode b7_bin 58 = .ok (.ireturn, 1) := by decide +kernel
theorem d7_bin_59 : decode b7_bin 59 = .ok (.aload_n 0, 1) := by decide +kernel
theorem d7_bin_60 : decode b7_bin 60 = .ok (.iload_n 1, 1) := by decide +kernel
theorem d7_bin_61 : decode b7_bin 61 = .ok (.invokevirtual 169, 3) := by decide +kernel
theorem d7_bin_64 : decode b7_bin 64 = .ok (.ireturn, 1) := by decide +kernel
theorem d7_bin_65 : decode b7_bin 65 = .ok (.aload_n 0, 1) := by decide +kernel
theorem d7_bin_66 : decode b7_bin 66 = .ok (.iload_n 1, 1) := by decide +kernel
theorem d7_bin_67 : decode b7_bin 67 = .ok (.invokevirtual 133, 3) := by decide +kernel
theorem d7_bin_70 : decode b7_bin 70 = .ok (.ireturn, 1) := by decide +kernel
theorem d7_bin_71 : decode b7_bin 71 = .ok (.aload_n 0, 1) := by decide +kernel
theorem d7_bin_72 : decode b7_bin 72 = .ok (.getfield 57, 3) := by decide +kernel
theorem d7_bin_75 : decode b7_bin 75 = .ok (.iload_n 1, 1) := by decide +kernel
theorem d7_bin_76 : decode b7_bin 76 = .ok (.iaload, 1) := by decide +kernel
theorem d7_bin_77 : decode b7_bin 77 = .ok (.ireturn, 1) := by decide +kernel
theorem d7_bin_78 : decode b7_bin 78 = .ok (.aload_n 0, 1) := by decide +kernel
theorem d7_bin_79 : decode b7_bin 79 = .ok (.getfield 48, 3) := by decide +kernel
theorem d7_bin_82 : decode b7_bin 82 = .ok (.iload_n 1, 1) := by decide +kernel
theorem d7_bin_83 : decode b7_bin 83 = .ok (.iaload, 1) := by decide +kernel
theorem d7_bin_84 : decode b7_bin 84 = .ok (.ireturn, 1) := by decide +kernel
theorem d7_bin_85 : decode b7_bin 85 = .ok (.aload_n 0, 1) := by decide +kernel
theorem d7_bin_86 : decode b7_bin 86 = .ok (.getfield 81, 3) := by decide +kernel
theorem d7_bin_89 : decode b7_bin 89 = .ok (.ifCond .lt 15, 3) := by decide +kernel
theorem d7_bin_92 : decode b7_bin 92 = .ok (.aload_n 0, 1) := by decide +kernel
theorem d7_bin_93 : decode b7_bin 93 = .ok (.getfield 153, 3) := by decide +kernel
theorem d7_bin_96 : decode b7_bin 96 = .ok (.iload_n 1, 1) := by decide +kernel
theorem d7_bin_97 : decode b7_bin 97 = .ok (.if_icmp .ne 7, 3) := by decide +kernel
theorem d7_bin_100 : decode b7_bin 100 = .ok (.iconst 1, 1) := by decide +kernel
theorem d7_bin_101 : decode b7_bin 101 = .ok (.goto 4, 3) := by decide +kernel
theorem d7_bin_104 : decode b7_bin 104 = .ok (.iconst 0, 1) := by decide +kernel
theorem d7_bin_105 : decode b7_bin 105 = .ok (.ireturn, 1) := by decide +kernel
theorem d7_lot_0 : decode b7_lot 0 = .ok (.iload_n 1, 1) := by decide +kernel
theorem d7_lot_1 : decode b7_lot 1 = .ok (.invokestatic 140, 3) := by decide +kernel
theorem d7_lot_4 : decode b7_lot 4 = .ok (.ifCond .eq 19, 3) := by decide +kernel
theorem d7_lot_7 : decode b7_lot 7 = .ok (.iload_n 2, 1) := by decide +kernel
theorem d7_lot_8 : decode b7_lot 8 = .ok (.iconst 0, 1) := by decide +kernel
theorem d7_lot_9 : decode b7_lot 9 = .ok (.aload_n 0, 1) := by decide +kernel
theorem d7_lot_10 : decode b7_lot 10 = .ok (.getfield 48, 3) := by decide +kernel
theorem d7_lot_13 : decode b7_lot 13 = .ok (.iload_n 1, 1) := by decide +kernel
theorem d7_lot_14 : decode b7_lot 14 = .ok (.iaload, 1) := by decide +kernel
theorem d7_lot_15 : decode b7_lot 15 = .ok (.iconst 1, 1) := by decide +kernel
theorem d7_lot_16 : decode b7_lot 16 = .ok (.isub, 1) := by decide +kernel
theorem d7_lot_17 : decode b7_lot 17 = .ok (.invokestatic 93, 3) := by decide +kernel
theorem d7_lot_20 : decode b7_lot 20 = .ok (.ifCond .ne 5, 3) := by decide +kernel
theorem d7_lot_23 : decode b7_lot 23 = .ok (.iconst (-1), 1) := by decide +kernel
theorem d7_lot_24 : decode b7_lot 24 = .ok (.ireturn, 1) := by decide +kernel
theorem d7_lot_25 : decode b7_lot 25 = .ok (.iload_n 3, 1) := by decide +kernel
theorem d7_lot_26 : decode b7_lot 26 = .ok (.ifCond .eq 17, 3) := by decide +kernel
theorem d7_lot_29 : decode b7_lot 29 = .ok (.aload_n 0, 1) := by decide +kernel
theorem d7_lot_30 : decode b7_lot 30 = .ok (.getfield 54, 3) := by decide +kernel
theorem d7_lot_33 : decode b7_lot 33 = .ok (.bipush 6, 2) := by decide +kernel
theorem d7_lot_35 : decode b7_lot 35 = .ok (.iload_n 1, 1) := by decide +kernel
theorem d7_lot_36 : decode b7_lot 36 = .ok (.imul, 1) := by decide +kernel
theorem d7_lot_37 : decode b7_lot 37 = .ok (.iload_n 2, 1) := by decide +kernel
theorem d7_lot_38 : decode b7_lot 38 = .ok (.iadd, 1) := by decide +kernel
theorem d7_lot_39 : decode b7_lot 39 = .ok (.iaload, 1) := by decide +kernel
theorem d7_lot_40 : decode b7_lot 40 = .ok (.goto 14, 3) := by decide +kernel
theorem d7_lot_43 : decode b7_lot 43 = .ok (.aload_n 0, 1) := by decide +kernel
theorem d7_lot_44 : decode b7_lot 44 = .ok (.getfield 51, 3) := by decide +kernel
theorem d7_lot_47 : decode b7_lot 47 = .ok (.bipush 6, 2) := by decide +kernel
theorem d7_lot_49 : decode b7_lot 49 = .ok (.iload_n 1, 1) := by decide +kernel
theorem d7_lot_50 : decode b7_lot 50 = .ok (.imul, 1) := by decide +kernel
theorem d7_lot_51 : decode b7_lot 51 = .ok (.iload_n 2, 1) := by decide +kernel
theorem d7_lot_52 : decode b7_lot 52 = .ok (.iadd, 1) := by decide +kernel
theorem d7_lot_53 : decode b7_lot 53 = .ok (.iaload, 1) := by decide +kernel
theorem d7_lot_54 : decode b7_lot 54 = .ok (.ireturn, 1) := by decide +kernel
theorem d7_stockOf_0 : decode b7_stockOf 0 = .ok (.iconst 0, 1) := by decide +kernel
theorem d7_stockOf_1 : decode b7_stockOf 1 = .ok (.istore_n 2, 1) := by decide +kernel
theorem d7_stockOf_2 : decode b7_stockOf 2 = .ok (.iconst 0, 1) := by decide +kernel
theorem d7_stockOf_3 : decode b7_stockOf 3 = .ok (.istore_n 3, 1) := by decide +kernel
theorem d7_stockOf_4 : decode b7_stockOf 4 = .ok (.iload_n 3, 1) := by decide +kernel
theorem d7_stockOf_5 : decode b7_stockOf 5 = .ok (.bipush 64, 2) := by decide +kernel
theorem d7_stockOf_7 : decode b7_stockOf 7 = .ok (.if_icmp .ge 31, 3) := by decide +kernel
theorem d7_stockOf_10 : decode b7_stockOf 10 = .ok (.iload_n 2, 1) := by decide +kernel
theorem d7_stockOf_11 : decode b7_stockOf 11 = .ok (.aload_n 0, 1) := by decide +kernel
theorem d7_stockOf_12 : decode b7_stockOf 12 = .ok (.getfield 45, 3) := by decide +kernel
theorem d7_stockOf_15 : decode b7_stockOf 15 = .ok (.iload_n 3, 1) := by decide +kernel
theorem d7_stockOf_16 : decode b7_stockOf 16 = .ok (.iaload, 1) := by decide +kernel
theorem d7_stockOf_17 : decode b7_stockOf 17 = .ok (.iload_n 1, 1) := by decide +kernel
theorem d7_stockOf_18 : decode b7_stockOf 18 = .ok (.if_icmp .ne 11, 3) := by decide +kernel
theorem d7_stockOf_21 : decode b7_stockOf 21 = .ok (.aload_n 0, 1) := by decide +kernel
theorem d7_stockOf_22 : decode b7_stockOf 22 = .ok (.iload_n 3, 1) := by decide +kernel
theorem d7_stockOf_23 : decode b7_stockOf 23 = .ok (.invokevirtual 133, 3) := by decide +kernel
theorem d7_stockOf_26 : decode b7_stockOf 26 = .ok (.goto 4, 3) := by decide +kernel
theorem d7_stockOf_29 : decode b7_stockOf 29 = .ok (.iconst 0, 1) := by decide +kernel
theorem d7_stockOf_30 : decode b7_stockOf 30 = .ok (.iadd, 1) := by decide +kernel
theorem d7_stockOf_31 : decode b7_stockOf 31 = .ok (.istore_n 2, 1) := by decide +kernel
theorem d7_stockOf_32 : decode b7_stockOf 32 = .ok (.iinc 3 1, 3) := by decide +kernel
theorem d7_stockOf_35 : decode b7_stockOf 35 = .ok (.goto (-31), 3) := by decide +kernel
theorem d7_stockOf_38 : decode b7_stockOf 38 = .ok (.iload_n 2, 1) := by decide +kernel
theorem d7_stockOf_39 : decode b7_stockOf 39 = .ok (.ireturn, 1) := by decide +kernel
theorem d7_isWanted_0 : decode b7_isWanted 0 = .ok (.aload_n 0, 1) := by decide +kernel
theorem d7_isWanted_1 : decode b7_isWanted 1 = .ok (.getfield 33, 3) := by decide +kernel
theorem d7_isWanted_4 : decode b7_isWanted 4 = .ok (.iload_n 1, 1) := by decide +kernel
theorem d7_isWanted_5 : decode b7_isWanted 5 = .ok (.baload, 1) := by decide +kernel
theorem d7_isWanted_6 : decode b7_isWanted 6 = .ok (.ifCond .eq 21, 3) := by decide +kernel
theorem d7_isWanted_9 : decode b7_isWanted 9 = .ok (.aload_n 0, 1) := by decide +kernel
theorem d7_isWanted_10 : decode b7_isWanted 10 = .ok (.iload_n 1, 1) := by decide +kernel
theorem d7_isWanted_11 : decode b7_isWanted 11 = .ok (.invokevirtual 191, 3) := by decide +kernel
theorem d7_isWanted_14 : decode b7_isWanted 14 = .ok (.aload_n 0, 1) := by decide +kernel
theorem d7_isWanted_15 : decode b7_isWanted 15 = .ok (.getfield 39, 3) := by decide +kernel
theorem d7_isWanted_18 : decode b7_isWanted 18 = .ok (.iload_n 1, 1) := by decide +kernel
theorem d7_isWanted_19 : decode b7_isWanted 19 = .ok (.iaload, 1) := by decide +kernel
theorem d7_isWanted_20 : decode b7_isWanted 20 = .ok (.if_icmp .ge 7, 3) := by decide +kernel
theorem d7_isWanted_23 : decode b7_isWanted 23 = .ok (.iconst 1, 1) := by decide +kernel
theorem d7_isWanted_24 : decode b7_isWanted 24 = .ok (.goto 4, 3) := by decide +kernel
theorem d7_isWanted_27 : decode b7_isWanted 27 = .ok (.iconst 0, 1) := by decide +kernel
theorem d7_isWanted_28 : decode b7_isWanted 28 = .ok (.ireturn, 1) := by decide +kernel
theorem d7_stock_0 : decode b7_stock 0 = .ok (.aload_n 0, 1) := by decide +kernel
theorem d7_stock_1 : decode b7_stock 1 = .ok (.iload_n 1, 1) := by decide +kernel
theorem d7_stock_2 : decode b7_stock 2 = .ok (.invokevirtual 117, 3) := by decide +kernel
theorem d7_stock_5 : decode b7_stock 5 = .ok (.ifCond .eq 12, 3) := by decide +kernel
theorem d7_stock_8 : decode b7_stock 8 = .ok (.iload_n 2, 1) := by decide +kernel
theorem d7_stock_9 : decode b7_stock 9 = .ok (.iconst 0, 1) := by decide +kernel
theorem d7_stock_10 : decode b7_stock 10 = .ok (.iconst 2, 1) := by decide +kernel
theorem d7_stock_11 : decode b7_stock 11 = .ok (.invokestatic 93, 3) := by decide +kernel
theorem d7_stock_14 : decode b7_stock 14 = .ok (.ifCond .ne 5, 3) := by decide +kernel
theorem d7_stock_17 : decode b7_stock 17 = .ok (.iconst (-1), 1) := by decide +kernel
theorem d7_stock_18 : decode b7_stock 18 = .ok (.ireturn, 1) := by decide +kernel
theorem d7_stock_19 : decode b7_stock 19 = .ok (.aload_n 0, 1) := by decide +kernel
theorem d7_stock_20 : decode b7_stock 20 = .ok (.iload_n 1, 1) := by decide +kernel
theorem d7_stock_21 : decode b7_stock 21 = .ok (.invokevirtual 191, 3) := by decide +kernel
theorem d7_stock_24 : decode b7_stock 24 = .ok (.istore_n 3, 1) := by decide +kernel
theorem d7_stock_25 : decode b7_stock 25 = .ok (.iload_n 2, 1) := by decide +kernel
theorem d7_stock_26 : decode b7_stock 26 = .ok (.ifCond .ne 7, 3) := by decide +kernel
theorem d7_stock_29 : decode b7_stock 29 = .ok (.iload_n 3, 1) := by decide +kernel
theorem d7_stock_30 : decode b7_stock 30 = .ok (.goto 39, 3) := by decide +kernel
theorem d7_stock_33 : decode b7_stock 33 = .ok (.iload_n 2, 1) := by decide +kernel
theorem d7_stock_34 : decode b7_stock 34 = .ok (.iconst 2, 1) := by decide +kernel
theorem d7_stock_35 : decode b7_stock 35 = .ok (.if_icmp .ne 12, 3) := by decide +kernel
theorem d7_stock_38 : decode b7_stock 38 = .ok (.aload_n 0, 1) := by decide +kernel
theorem d7_stock_39 : decode b7_stock 39 = .ok (.getfield 42, 3) := by decide +kernel
theorem d7_stock_42 : decode b7_stock 42 = .ok (.iload_n 1, 1) := by decide +kernel
theorem d7_stock_43 : decode b7_stock 43 = .ok (.iaload, 1) := by decide +kernel
theorem d7_stock_44 : decode b7_stock 44 = .ok (.goto 25, 3) := by decide +kernel
theorem d7_stock_47 : decode b7_stock 47 = .ok (.iload_n 3, 1) := by decide +kernel
theorem d7_stock_48 : decode b7_stock 48 = .ok (.aload_n 0, 1) := by decide +kernel
theorem d7_stock_49 : decode b7_stock 49 = .ok (.getfield 39, 3) := by decide +kernel
theorem d7_stock_52 : decode b7_stock 52 = .ok (.iload_n 1, 1) := by decide +kernel
theorem d7_stock_53 : decode b7_stock 53 = .ok (.iaload, 1) := by decide +kernel
theorem d7_stock_54 : decode b7_stock 54 = .ok (.if_icmp .ge 14, 3) := by decide +kernel
theorem d7_stock_57 : decode b7_stock 57 = .ok (.aload_n 0, 1) := by decide +kernel
theorem d7_stock_58 : decode b7_stock 58 = .ok (.getfield 39, 3) := by decide +kernel
theorem d7_stock_61 : decode b7_stock 61 = .ok (.iload_n 1, 1) := by decide +kernel
theorem d7_stock_62 : decode b7_stock 62 = .ok (.iaload, 1) := by decide +kernel
theorem d7_stock_63 : decode b7_stock 63 = .ok (.iload_n 3, 1) := by decide +kernel
theorem d7_stock_64 : decode b7_stock 64 = .ok (.isub, 1) := by decide +kernel
theorem d7_stock_65 : decode b7_stock 65 = .ok (.goto 4, 3) := by decide +kernel
theorem d7_stock_68 : decode b7_stock 68 = .ok (.iconst 0, 1) := by decide +kernel
theorem d7_stock_69 : decode b7_stock 69 = .ok (.ireturn, 1) := by decide +kernel
theorem d7_wanted_0 : decode b7_wanted 0 = .ok (.iconst 0, 1) := by decide +kernel
theorem d7_wanted_1 : decode b7_wanted 1 = .ok (.istore_n 2, 1) := by decide +kernel
theorem d7_wanted_2 : decode b7_wanted 2 = .ok (.iconst (-1), 1) := by decide +kernel
theorem d7_wanted_3 : decode b7_wanted 3 = .ok (.istore_n 3, 1) := by decide +kernel
theorem d7_wanted_4 : decode b7_wanted 4 = .ok (.iconst 0, 1) := by decide +kernel
theorem d7_wanted_5 : decode b7_wanted 5 = .ok (.istore 4, 2) := by decide +kernel
theorem d7_wanted_7 : decode b7_wanted 7 = .ok (.iload 4, 2) := by decide +kernel
theorem d7_wanted_9 : decode b7_wanted 9 = .ok (.bipush 32, 2) := by decide +kernel
theorem d7_wanted_11 : decode b7_wanted 11 = .ok (.if_icmp .ge 33, 3) := by decide +kernel
theorem d7_wanted_14 : decode b7_wanted 14 = .ok (.aload_n 0, 1) := by decide +kernel
theorem d7_wanted_15 : decode b7_wanted 15 = .ok (.iload 4, 2) := by decide +kernel
theorem d7_wanted_17 : decode b7_wanted 17 = .ok (.invokevirtual 194, 3) := by decide +kernel
theorem d7_wanted_20 : decode b7_wanted 20 = .ok (.ifCond .eq 18, 3) := by decide +kernel
theorem d7_wanted_23 : decode b7_wanted 23 = .ok (.iload_n 2, 1) := by decide +kernel
theorem d7_wanted_24 : decode b7_wanted 24 = .ok (.iload_n 1, 1) := by decide +kernel
theorem d7_wanted_25 : decode b7_wanted 25 = .ok (.if_icmp .ne 8, 3) := by decide +kernel
theorem d7_wanted_28 : decode b7_wanted 28 = .ok (.iload 4, 2) := by decide +kernel
theorem d7_wanted_30 : decode b7_wanted 30 = .ok (.goto 4, 3) := by decide +kernel
theorem d7_wanted_33 : decode b7_wanted 33 = .ok (.iload_n 3, 1) := by decide +kernel
theorem d7_wanted_34 : decode b7_wanted 34 = .ok (.istore_n 3, 1) := by decide +kernel
theorem d7_wanted_35 : decode b7_wanted 35 = .ok (.iinc 2 1, 3) := by decide +kernel
theorem d7_wanted_38 : decode b7_wanted 38 = .ok (.iinc 4 1, 3) := by decide +kernel
theorem d7_wanted_41 : decode b7_wanted 41 = .ok (.goto (-34), 3) := by decide +kernel
theorem d7_wanted_44 : decode b7_wanted 44 = .ok (.iload_n 3, 1) := by decide +kernel
theorem d7_wanted_45 : decode b7_wanted 45 = .ok (.ireturn, 1) := by decide +kernel
theorem d7_orderTold_0 : decode b7_orderTold 0 = .ok (.aload_n 0, 1) := by decide +kernel
theorem d7_orderTold_1 : decode b7_orderTold 1 = .ok (.iload_n 1, 1) := by decide +kernel
theorem d7_orderTold_2 : decode b7_orderTold 2 = .ok (.invokevirtual 121, 3) := by decide +kernel
theorem d7_orderTold_5 : decode b7_orderTold 5 = .ok (.ifCond .eq 12, 3) := by decide +kernel
theorem d7_orderTold_8 : decode b7_orderTold 8 = .ok (.iload_n 2, 1) := by decide +kernel
theorem d7_orderTold_9 : decode b7_orderTold 9 = .ok (.iconst 0, 1) := by decide +kernel
theorem d7_orderTold_10 : decode b7_orderTold 10 = .ok (.iconst 2, 1) := by decide +kernel
theorem d7_orderTold_11 : decode b7_orderTold 11 = .ok (.invokestatic 93, 3) := by decide +kernel
theorem d7_orderTold_14 : decode b7_orderTold 14 = .ok (.ifCond .ne 5, 3) := by decide +kernel
theorem d7_orderTold_17 : decode b7_orderTold 17 = .ok (.iconst (-1), 1) := by decide +kernel
theorem d7_orderTold_18 : decode b7_orderTold 18 = .ok (.ireturn, 1) := by decide +kernel
theorem d7_orderTold_19 : decode b7_orderTold 19 = .ok (.iload_n 2, 1) := by decide +kernel
theorem d7_orderTold_20 : decode b7_orderTold 20 = .ok (.ifCond .ne 12, 3) := by decide +kernel
theorem d7_orderTold_23 : decode b7_orderTold 23 = .ok (.aload_n 0, 1) := by decide +kernel
theorem d7_orderTold_24 : decode b7_orderTold 24 = .ok (.getfield 63, 3) := by decide +kernel
theorem d7_orderTold_27 : decode b7_orderTold 27 = .ok (.iload_n 1, 1) := by decide +kernel
theorem d7_orderTold_28 : decode b7_orderTold 28 = .ok (.iaload, 1) := by decide +kernel
theorem d7_orderTold_29 : decode b7_orderTold 29 = .ok (.goto 30, 3) := by decide +kernel
theorem d7_orderTold_32 : decode b7_orderTold 32 = .ok (.iload_n 2, 1) := by decide +kernel
theorem d7_orderTold_33 : decode b7_orderTold 33 = .ok (.iconst 1, 1) := by decide +kernel
theorem d7_orderTold_34 : decode b7_orderTold 34 = .ok (.if_icmp .ne 12, 3) := by decide +kernel
theorem d7_orderTold_37 : decode b7_orderTold 37 = .ok (.aload_n 0, 1) := by decide +kernel
theorem d7_orderTold_38 : decode b7_orderTold 38 = .ok (.getfield 66, 3) := by decide +kernel
theorem d7_orderTold_41 : decode b7_orderTold 41 = .ok (.iload_n 1, 1) := by decide +kernel
theorem d7_orderTold_42 : decode b7_orderTold 42 = .ok (.iaload, 1) := by decide +kernel
theorem d7_orderTold_43 : decode b7_orderTold 43 = .ok (.goto 16, 3) := by decide +kernel
theorem d7_orderTold_46 : decode b7_orderTold 46 = .ok (.aload_n 0, 1) := by decide +kernel
theorem d7_orderTold_47 : decode b7_orderTold 47 = .ok (.iload_n 1, 1) := by decide +kernel
theorem d7_orderTold_48 : decode b7_orderTold 48 = .ok (.invokevirtual 127, 3) := by decide +kernel
theorem d7_orderTold_51 : decode b7_orderTold 51 = .ok (.ifCond .eq 7, 3) := by decide +kernel
theorem d7_orderTold_54 : decode b7_orderTold 54 = .ok (.iconst 1, 1) := by decide +kernel
theorem d7_orderTold_55 : decode b7_orderTold 55 = .ok (.goto 4, 3) := by decide +kernel
theorem d7_orderTold_58 : decode b7_orderTold 58 = .ok (.iconst 0, 1) := by decide +kernel
theorem d7_orderTold_59 : decode b7_orderTold 59 = .ok (.ireturn, 1) := by decide +kernel
theorem d7_alarms_0 : decode b7_alarms 0 = .ok (.iconst 0, 1) := by decide +kernel
theorem d7_alarms_1 : decode b7_alarms 1 = .ok (.istore_n 1, 1) := by decide +kernel
theorem d7_alarms_2 : decode b7_alarms 2 = .ok (.iconst 0, 1) := by decide +kernel
theorem d7_alarms_3 : decode b7_alarms 3 = .ok (.istore_n 2, 1) := by decide +kernel
theorem d7_alarms_4 : decode b7_alarms 4 = .ok (.iload_n 2, 1) := by decide +kernel
theorem d7_alarms_5 : decode b7_alarms 5 = .ok (.bipush 16, 2) := by decide +kernel
theorem d7_alarms_7 : decode b7_alarms 7 = .ok (.if_icmp .ge 41, 3) := by decide +kernel
theorem d7_alarms_10 : decode b7_alarms 10 = .ok (.iload_n 1, 1) := by decide +kernel
theorem d7_alarms_11 : decode b7_alarms 11 = .ok (.ifCond .ne 25, 3) := by decide +kernel
theorem d7_alarms_14 : decode b7_alarms 14 = .ok (.aload_n 0, 1) := by decide +kernel
theorem d7_alarms_15 : decode b7_alarms 15 = .ok (.getfield 7, 3) := by decide +kernel
theorem d7_alarms_18 : decode b7_alarms 18 = .ok (.iload_n 2, 1) := by decide +kernel
theorem d7_alarms_19 : decode b7_alarms 19 = .ok (.baload, 1) := by decide +kernel
theorem d7_alarms_20 : decode b7_alarms 20 = .ok (.ifCond .eq 20, 3) := by decide +kernel
theorem d7_alarms_23 : decode b7_alarms 23 = .ok (.aload_n 0, 1) := by decide +kernel
theorem d7_alarms_24 : decode b7_alarms 24 = .ok (.getfield 100, 3) := by decide +kernel
theorem d7_alarms_27 : decode b7_alarms 27 = .ok (.aload_n 0, 1) := by decide +kernel
theorem d7_alarms_28 : decode b7_alarms 28 = .ok (.getfield 23, 3) := by decide +kernel
theorem d7_alarms_31 : decode b7_alarms 31 = .ok (.iload_n 2, 1) := by decide +kernel
theorem d7_alarms_32 : decode b7_alarms 32 = .ok (.iaload, 1) := by decide +kernel
theorem d7_alarms_33 : decode b7_alarms 33 = .ok (.if_icmp .ge 7, 3) := by decide +kernel
theorem d7_alarms_36 : decode b7_alarms 36 = .ok (.iconst 1, 1) := by decide +kernel
theorem d7_alarms_37 : decode b7_alarms 37 = .ok (.goto 4, 3) := by decide +kernel
theorem d7_alarms_40 : decode b7_alarms 40 = .ok (.iconst 0, 1) := by decide +kernel
theorem d7_alarms_41 : decode b7_alarms 41 = .ok (.istore_n 1, 1) := by decide +kernel
theorem d7_alarms_42 : decode b7_alarms 42 = .ok (.iinc 2 1, 3) := by decide +kernel
theorem d7_alarms_45 : decode b7_alarms 45 = .ok (.goto (-41), 3) := by decide +kernel
theorem d7_alarms_48 : decode b7_alarms 48 = .ok (.iconst 0, 1) := by decide +kernel
theorem d7_alarms_49 : decode b7_alarms 49 = .ok (.istore_n 2, 1) := by decide +kernel
theorem d7_alarms_50 : decode b7_alarms 50 = .ok (.iconst 0, 1) := by decide +kernel
theorem d7_alarms_51 : decode b7_alarms 51 = .ok (.istore_n 3, 1) := by decide +kernel
theorem d7_alarms_52 : decode b7_alarms 52 = .ok (.iload_n 3, 1) := by decide +kernel
theorem d7_alarms_53 : decode b7_alarms 53 = .ok (.bipush 32, 2) := by decide +kernel
theorem d7_alarms_55 : decode b7_alarms 55 = .ok (.if_icmp .ge 27, 3) := by decide +kernel
theorem d7_alarms_58 : decode b7_alarms 58 = .ok (.iload_n 2, 1) := by decide +kernel
theorem d7_alarms_59 : decode b7_alarms 59 = .ok (.ifCond .ne 11, 3) := by decide +kernel
theorem d7_alarms_62 : decode b7_alarms 62 = .ok (.aload_n 0, 1) := by decide +kernel
theorem d7_alarms_63 : decode b7_alarms 63 = .ok (.iload_n 3, 1) := by decide +kernel
theorem d7_alarms_64 : decode b7_alarms 64 = .ok (.invokevirtual 194, 3) := by decide +kernel
theorem d7_alarms_67 : decode b7_alarms 67 = .ok (.ifCond .eq 7, 3) := by decide +kernel
theorem d7_alarms_70 : decode b7_alarms 70 = .ok (.iconst 1, 1) := by decide +kernel
theorem d7_alarms_71 : decode b7_alarms 71 = .ok (.goto 4, 3) := by decide +kernel
theorem d7_alarms_74 : decode b7_alarms 74 = .ok (.iconst 0, 1) := by decide +kernel
theorem d7_alarms_75 : decode b7_alarms 75 = .ok (.istore_n 2, 1) := by decide +kernel
theorem d7_alarms_76 : decode b7_alarms 76 = .ok (.iinc 3 1, 3) := by decide +kernel
theorem d7_alarms_79 : decode b7_alarms 79 = .ok (.goto (-27), 3) := by decide +kernel
theorem d7_alarms_82 : decode b7_alarms 82 = .ok (.iconst 0, 1) := by decide +kernel
theorem d7_alarms_83 : decode b7_alarms 83 = .ok (.istore_n 3, 1) := by decide +kernel
theorem d7_alarms_84 : decode b7_alarms 84 = .ok (.iconst 0, 1) := by decide +kernel
theorem d7_alarms_85 : decode b7_alarms 85 = .ok (.istore 4, 2) := by decide +kernel
theorem d7_alarms_87 : decode b7_alarms 87 = .ok (.iload 4, 2) := by decide +kernel
theorem d7_alarms_89 : decode b7_alarms 89 = .ok (.bipush 64, 2) := by decide +kernel
theorem d7_alarms_91 : decode b7_alarms 91 = .ok (.if_icmp .ge 34, 3) := by decide +kernel
theorem d7_alarms_94 : decode b7_alarms 94 = .ok (.iload_n 3, 1) := by decide +kernel
theorem d7_alarms_95 : decode b7_alarms 95 = .ok (.ifCond .ne 18, 3) := by decide +kernel
theorem d7_alarms_98 : decode b7_alarms 98 = .ok (.aload_n 0, 1) := by decide +kernel
theorem d7_alarms_99 : decode b7_alarms 99 = .ok (.iload 4, 2) := by decide +kernel
theorem d7_alarms_101 : decode b7_alarms 101 = .ok (.invokevirtual 133, 3) := by decide +kernel
theorem d7_alarms_104 : decode b7_alarms 104 = .ok (.aload_n 0, 1) := by decide +kernel
theorem d7_alarms_105 : decode b7_alarms 105 = .ok (.iload 4, 2) := by decide +kernel
theorem d7_alarms_107 : decode b7_alarms 107 = .ok (.invokevirtual 169, 3) := by decide +kernel
theorem d7_alarms_110 : decode b7_alarms 110 = .ok (.if_icmp .ge 7, 3) := by decide +kernel
theorem d7_alarms_113 : decode b7_alarms 113 = .ok (.iconst 1, 1) := by decide +kernel
theorem d7_alarms_114 : decode b7_alarms 114 = .ok (.goto 4, 3) := by decide +kernel
theorem d7_alarms_117 : decode b7_alarms 117 = .ok (.iconst 0, 1) := by decide +kernel
theorem d7_alarms_118 : decode b7_alarms 118 = .ok (.istore_n 3, 1) := by decide +kernel
theorem d7_alarms_119 : decode b7_alarms 119 = .ok (.iinc 4 1, 3) := by decide +kernel
theorem d7_alarms_122 : decode b7_alarms 122 = .ok (.goto (-35), 3) := by decide +kernel
theorem d7_alarms_125 : decode b7_alarms 125 = .ok (.aload_n 0, 1) := by decide +kernel
theorem d7_alarms_126 : decode b7_alarms 126 = .ok (.getfield 81, 3) := by decide +kernel
theorem d7_alarms_129 : decode b7_alarms 129 = .ok (.ifCond .lt 21, 3) := by decide +kernel
theorem d7_alarms_132 : decode b7_alarms 132 = .ok (.aload_n 0, 1) := by decide +kernel
theorem d7_alarms_133 : decode b7_alarms 133 = .ok (.getfield 100, 3) := by decide +kernel
theorem d7_alarms_136 : decode b7_alarms 136 = .ok (.aload_n 0, 1) := by decide +kernel
theorem d7_alarms_137 : decode b7_alarms 137 = .ok (.getfield 156, 3) := by decide +kernel
theorem d7_alarms_140 : decode b7_alarms 140 = .ok (.isub, 1) := by decide +kernel
theorem d7_alarms_141 : decode b7_alarms 141 = .ok (.bipush 40, 2) := by decide +kernel
theorem d7_alarms_143 : decode b7_alarms 143 = .ok (.if_icmp .lt 7, 3) := by decide +kernel
theorem d7_alarms_146 : decode b7_alarms 146 = .ok (.iconst 1, 1) := by decide +kernel
theorem d7_alarms_147 : decode b7_alarms 147 = .ok (.goto 4, 3) := by decide +kernel
theorem d7_alarms_150 : decode b7_alarms 150 = .ok (.iconst 0, 1) := by decide +kernel
theorem d7_alarms_151 : decode b7_alarms 151 = .ok (.istore 4, 2) := by decide +kernel
theorem d7_alarms_153 : decode b7_alarms 153 = .ok (.iload 4, 2) := by decide +kernel
theorem d7_alarms_155 : decode b7_alarms 155 = .ok (.iload_n 1, 1) := by decide +kernel
theorem d7_alarms_156 : decode b7_alarms 156 = .ok (.ifCond .eq 7, 3) := by decide +kernel
theorem d7_alarms_159 : decode b7_alarms 159 = .ok (.iconst 2, 1) := by decide +kernel
theorem d7_alarms_160 : decode b7_alarms 160 = .ok (.goto 4, 3) := by decide +kernel
theorem d7_alarms_163 : decode b7_alarms 163 = .ok (.iconst 0, 1) := by decide +kernel
theorem d7_alarms_164 : decode b7_alarms 164 = .ok (.iadd, 1) := by decide +kernel
theorem d7_alarms_165 : decode b7_alarms 165 = .ok (.iload_n 2, 1) := by decide +kernel
theorem d7_alarms_166 : decode b7_alarms 166 = .ok (.ifCond .eq 7, 3) := by decide +kernel
theorem d7_alarms_169 : decode b7_alarms 169 = .ok (.iconst 4, 1) := by decide +kernel
theorem d7_alarms_170 : decode b7_alarms 170 = .ok (.goto 4, 3) := by decide +kernel
theorem d7_alarms_173 : decode b7_alarms 173 = .ok (.iconst 0, 1) := by decide +kernel
theorem d7_alarms_174 : decode b7_alarms 174 = .ok (.iadd, 1) := by decide +kernel
theorem d7_alarms_175 : decode b7_alarms 175 = .ok (.aload_n 0, 1) := by decide +kernel
theorem d7_alarms_176 : decode b7_alarms 176 = .ok (.invokevirtual 197, 3) := by decide +kernel
theorem d7_alarms_179 : decode b7_alarms 179 = .ok (.iconst 2, 1) := by decide +kernel
theorem d7_alarms_180 : decode b7_alarms 180 = .ok (.if_icmp .ge 8, 3) := by decide +kernel
theorem d7_alarms_183 : decode b7_alarms 183 = .ok (.bipush 8, 2) := by decide +kernel
theorem d7_alarms_185 : decode b7_alarms 185 = .ok (.goto 4, 3) := by decide +kernel
theorem d7_alarms_188 : decode b7_alarms 188 = .ok (.iconst 0, 1) := by decide +kernel
theorem d7_alarms_189 : decode b7_alarms 189 = .ok (.iadd, 1) := by decide +kernel
theorem d7_alarms_190 : decode b7_alarms 190 = .ok (.iload_n 3, 1) := by decide +kernel
theorem d7_alarms_191 : decode b7_alarms 191 = .ok (.ifCond .eq 8, 3) := by decide +kernel
theorem d7_alarms_194 : decode b7_alarms 194 = .ok (.bipush 16, 2) := by decide +kernel
theorem d7_alarms_196 : decode b7_alarms 196 = .ok (.goto 4, 3) := by decide +kernel
theorem d7_alarms_199 : decode b7_alarms 199 = .ok (.iconst 0, 1) := by decide +kernel
theorem d7_alarms_200 : decode b7_alarms 200 = .ok (.iadd, 1) := by decide +kernel
theorem d7_alarms_201 : decode b7_alarms 201 = .ok (.ireturn, 1) := by decide +kernel
theorem d7_told_0 : decode b7_told 0 = .ok (.iload_n 1, 1) := by decide +kernel
theorem d7_told_1 : decode b7_told 1 = .ok (.tableswitch 126 0 6 #[43, 48, 53, 69, 74, 90, 121], 43) := by decide +kernel
theorem d7_told_44 : decode b7_told 44 = .ok (.aload_n 0, 1) := by decide +kernel
theorem d7_told_45 : decode b7_told 45 = .ok (.getfield 100, 3) := by decide +kernel
theorem d7_told_48 : decode b7_told 48 = .ok (.ireturn, 1) := by decide +kernel
theorem d7_told_49 : decode b7_told 49 = .ok (.aload_n 0, 1) := by decide +kernel
theorem d7_told_50 : decode b7_told 50 = .ok (.getfield 26, 3) := by decide +kernel
theorem d7_told_53 : decode b7_told 53 = .ok (.ireturn, 1) := by decide +kernel
theorem d7_told_54 : decode b7_told 54 = .ok (.aload_n 0, 1) := by decide +kernel
theorem d7_told_55 : decode b7_told 55 = .ok (.invokevirtual 143, 3) := by decide +kernel
theorem d7_told_58 : decode b7_told 58 = .ok (.ifCond .eq 10, 3) := by decide +kernel
theorem d7_told_61 : decode b7_told 61 = .ok (.aload_n 0, 1) := by decide +kernel
theorem d7_told_62 : decode b7_told 62 = .ok (.getfield 30, 3) := by decide +kernel
theorem d7_told_65 : decode b7_told 65 = .ok (.goto 4, 3) := by decide +kernel
theorem d7_told_68 : decode b7_told 68 = .ok (.iconst (-1), 1) := by decide +kernel
theorem d7_told_69 : decode b7_told 69 = .ok (.ireturn, 1) := by decide +kernel
theorem d7_told_70 : decode b7_told 70 = .ok (.aload_n 0, 1) := by decide +kernel
theorem d7_told_71 : decode b7_told 71 = .ok (.getfield 81, 3) := by decide +kernel
theorem d7_told_74 : decode b7_told 74 = .ok (.ireturn, 1) := by decide +kernel
theorem d7_told_75 : decode b7_told 75 = .ok (.aload_n 0, 1) := by decide +kernel
theorem d7_told_76 : decode b7_told 76 = .ok (.getfield 81, 3) := by decide +kernel
theorem d7_told_79 : decode b7_told 79 = .ok (.ifCond .ge 7, 3) := by decide +kernel
theorem d7_told_82 : decode b7_told 82 = .ok (.iconst (-1), 1) := by decide +kernel
theorem d7_told_83 : decode b7_told 83 = .ok (.goto 7, 3) := by decide +kernel
theorem d7_told_86 : decode b7_told 86 = .ok (.aload_n 0, 1) := by decide +kernel
theorem d7_told_87 : decode b7_told 87 = .ok (.getfield 153, 3) := by decide +kernel
theorem d7_told_90 : decode b7_told 90 = .ok (.ireturn, 1) := by decide +kernel
theorem d7_told_91 : decode b7_told 91 = .ok (.aload_n 0, 1) := by decide +kernel
theorem d7_told_92 : decode b7_told 92 = .ok (.getfield 81, 3) := by decide +kernel
theorem d7_told_95 : decode b7_told 95 = .ok (.ifCond .ge 7, 3) := by decide +kernel
theorem d7_told_98 : decode b7_told 98 = .ok (.iconst (-1), 1) := by decide +kernel
theorem d7_told_99 : decode b7_told 99 = .ok (.goto 22, 3) := by decide +kernel
theorem d7_told_102 : decode b7_told 102 = .ok (.aload_n 0, 1) := by decide +kernel
theorem d7_told_103 : decode b7_told 103 = .ok (.getfield 159, 3) := by decide +kernel
theorem d7_told_106 : decode b7_told 106 = .ok (.ifCond .eq 14, 3) := by decide +kernel
theorem d7_told_109 : decode b7_told 109 = .ok (.aload_n 0, 1) := by decide +kernel
theorem d7_told_110 : decode b7_told 110 = .ok (.getfield 163, 3) := by decide +kernel
theorem d7_told_113 : decode b7_told 113 = .ok (.ifCond .ne 7, 3) := by decide +kernel
theorem d7_told_116 : decode b7_told 116 = .ok (.iconst 1, 1) := by decide +kernel
theorem d7_told_117 : decode b7_told 117 = .ok (.goto 4, 3) := by decide +kernel
theorem d7_told_120 : decode b7_told 120 = .ok (.iconst 0, 1) := by decide +kernel
theorem d7_told_121 : decode b7_told 121 = .ok (.ireturn, 1) := by decide +kernel
theorem d7_told_122 : decode b7_told 122 = .ok (.aload_n 0, 1) := by decide +kernel
theorem d7_told_123 : decode b7_told 123 = .ok (.getfield 130, 3) := by decide +kernel
theorem d7_told_126 : decode b7_told 126 = .ok (.ireturn, 1) := by decide +kernel
theorem d7_told_127 : decode b7_told 127 = .ok (.iconst (-1), 1) := by decide +kernel
theorem d7_told_128 : decode b7_told 128 = .ok (.ireturn, 1) := by decide +kernel
theorem d7_entry_0 : decode b7_entry 0 = .ok (.iload_n 1, 1) := by decide +kernel
theorem d7_entry_1 : decode b7_entry 1 = .ok (.iconst 0, 1) := by decide +kernel
theorem d7_entry_2 : decode b7_entry 2 = .ok (.aload_n 0, 1) := by decide +kernel
theorem d7_entry_3 : decode b7_entry 3 = .ok (.getfield 130, 3) := by decide +kernel
theorem d7_entry_6 : decode b7_entry 6 = .ok (.iconst 1, 1) := by decide +kernel
theorem d7_entry_7 : decode b7_entry 7 = .ok (.isub, 1) := by decide +kernel
theorem d7_entry_8 : decode b7_entry 8 = .ok (.invokestatic 93, 3) := by decide +kernel
theorem d7_entry_11 : decode b7_entry 11 = .ok (.ifCond .eq 12, 3) := by decide +kernel
theorem d7_entry_14 : decode b7_entry 14 = .ok (.iload_n 2, 1) := by decide +kernel
theorem d7_entry_15 : decode b7_entry 15 = .ok (.iconst 0, 1) := by decide +kernel
theorem d7_entry_16 : decode b7_entry 16 = .ok (.iconst 5, 1) := by decide +kernel
theorem d7_entry_17 : decode b7_entry 17 = .ok (.invokestatic 93, 3) := by decide +kernel
theorem d7_entry_20 : decode b7_entry 20 = .ok (.ifCond .ne 5, 3) := by decide +kernel
theorem d7_entry_23 : decode b7_entry 23 = .ok (.iconst (-1), 1) := by decide +kernel
theorem d7_entry_24 : decode b7_entry 24 = .ok (.ireturn, 1) := by decide +kernel
theorem d7_entry_25 : decode b7_entry 25 = .ok (.aload_n 0, 1) := by decide +kernel
theorem d7_entry_26 : decode b7_entry 26 = .ok (.invokevirtual 197, 3) := by decide +kernel
theorem d7_entry_29 : decode b7_entry 29 = .ok (.ifCond .ne 8, 3) := by decide +kernel
theorem d7_entry_32 : decode b7_entry 32 = .ok (.bipush (-8), 2) := by decide +kernel
theorem d7_entry_34 : decode b7_entry 34 = .ok (.goto 14, 3) := by decide +kernel
theorem d7_entry_37 : decode b7_entry 37 = .ok (.aload_n 0, 1) := by decide +kernel
theorem d7_entry_38 : decode b7_entry 38 = .ok (.getfield 84, 3) := by decide +kernel
theorem d7_entry_41 : decode b7_entry 41 = .ok (.bipush 6, 2) := by decide +kernel
theorem d7_entry_43 : decode b7_entry 43 = .ok (.iload_n 1, 1) := by decide +kernel
theorem d7_entry_44 : decode b7_entry 44 = .ok (.imul, 1) := by decide +kernel
theorem d7_entry_45 : decode b7_entry 45 = .ok (.iload_n 2, 1) := by decide +kernel
theorem d7_entry_46 : decode b7_entry 46 = .ok (.iadd, 1) := by decide +kernel
theorem d7_entry_47 : decode b7_entry 47 = .ok (.iaload, 1) := by decide +kernel
theorem d7_entry_48 : decode b7_entry 48 = .ok (.ireturn, 1) := by decide +kernel
theorem d7_lose_0 : decode b7_lose 0 = .ok (.iload_n 1, 1) := by decide +kernel
theorem d7_lose_1 : decode b7_lose 1 = .ok (.iconst 0, 1) := by decide +kernel
theorem d7_lose_2 : decode b7_lose 2 = .ok (.iconst 1, 1) := by decide +kernel
theorem d7_lose_3 : decode b7_lose 3 = .ok (.invokestatic 93, 3) := by decide +kernel
theorem d7_lose_6 : decode b7_lose 6 = .ok (.ifCond .ne 5, 3) := by decide +kernel
theorem d7_lose_9 : decode b7_lose 9 = .ok (.iconst (-1), 1) := by decide +kernel
theorem d7_lose_10 : decode b7_lose 10 = .ok (.ireturn, 1) := by decide +kernel
theorem d7_lose_11 : decode b7_lose 11 = .ok (.aload_n 0, 1) := by decide +kernel
theorem d7_lose_12 : decode b7_lose 12 = .ok (.getfield 87, 3) := by decide +kernel
theorem d7_lose_15 : decode b7_lose 15 = .ok (.iload_n 1, 1) := by decide +kernel
theorem d7_lose_16 : decode b7_lose 16 = .ok (.iconst 1, 1) := by decide +kernel
theorem d7_lose_17 : decode b7_lose 17 = .ok (.bastore, 1) := by decide +kernel
theorem d7_lose_18 : decode b7_lose 18 = .ok (.aload_n 0, 1) := by decide +kernel
theorem d7_lose_19 : decode b7_lose 19 = .ok (.invokevirtual 197, 3) := by decide +kernel
theorem d7_lose_22 : decode b7_lose 22 = .ok (.ireturn, 1) := by decide +kernel
theorem d7_repair_0 : decode b7_repair 0 = .ok (.aload_n 0, 1) := by decide +kernel
theorem d7_repair_1 : decode b7_repair 1 = .ok (.invokevirtual 197, 3) := by decide +kernel
theorem d7_repair_4 : decode b7_repair 4 = .ok (.ifCond .ne 6, 3) := by decide +kernel
theorem d7_repair_7 : decode b7_repair 7 = .ok (.bipush (-8), 2) := by decide +kernel
theorem d7_repair_9 : decode b7_repair 9 = .ok (.ireturn, 1) := by decide +kernel
theorem d7_repair_10 : decode b7_repair 10 = .ok (.aload_n 0, 1) := by decide +kernel
theorem d7_repair_11 : decode b7_repair 11 = .ok (.getfield 87, 3) := by decide +kernel
theorem d7_repair_14 : decode b7_repair 14 = .ok (.iconst 0, 1) := by decide +kernel
theorem d7_repair_15 : decode b7_repair 15 = .ok (.iconst 0, 1) := by decide +kernel
theorem d7_repair_16 : decode b7_repair 16 = .ok (.bastore, 1) := by decide +kernel
theorem d7_repair_17 : decode b7_repair 17 = .ok (.aload_n 0, 1) := by decide +kernel
theorem d7_repair_18 : decode b7_repair 18 = .ok (.getfield 87, 3) := by decide +kernel
theorem d7_repair_21 : decode b7_repair 21 = .ok (.iconst 1, 1) := by decide +kernel
theorem d7_repair_22 : decode b7_repair 22 = .ok (.iconst 0, 1) := by decide +kernel
theorem d7_repair_23 : decode b7_repair 23 = .ok (.bastore, 1) := by decide +kernel
theorem d7_repair_24 : decode b7_repair 24 = .ok (.iconst 2, 1) := by decide +kernel
theorem d7_repair_25 : decode b7_repair 25 = .ok (.ireturn, 1) := by decide +kernel
theorem d7_audit_0 : decode b7_audit 0 = .ok (.aload_n 0, 1) := by decide +kernel
theorem d7_audit_1 : decode b7_audit 1 = .ok (.invokevirtual 197, 3) := by decide +kernel
theorem d7_audit_4 : decode b7_audit 4 = .ok (.ifCond .ne 6, 3) := by decide +kernel
theorem d7_audit_7 : decode b7_audit 7 = .ok (.bipush (-8), 2) := by decide +kernel
theorem d7_audit_9 : decode b7_audit 9 = .ok (.ireturn, 1) := by decide +kernel
theorem d7_audit_10 : decode b7_audit 10 = .ok (.iconst 0, 1) := by decide +kernel
theorem d7_audit_11 : decode b7_audit 11 = .ok (.istore_n 1, 1) := by decide +kernel
theorem d7_audit_12 : decode b7_audit 12 = .ok (.iconst 0, 1) := by decide +kernel
theorem d7_audit_13 : decode b7_audit 13 = .ok (.istore_n 2, 1) := by decide +kernel
theorem d7_audit_14 : decode b7_audit 14 = .ok (.iload_n 2, 1) := by decide +kernel
theorem d7_audit_15 : decode b7_audit 15 = .ok (.bipush 64, 2) := by decide +kernel
theorem d7_audit_17 : decode b7_audit 17 = .ok (.if_icmp .ge 149, 3) := by decide +kernel
theorem d7_audit_20 : decode b7_audit 20 = .ok (.iconst 0, 1) := by decide +kernel
theorem d7_audit_21 : decode b7_audit 21 = .ok (.istore_n 3, 1) := by decide +kernel
theorem d7_audit_22 : decode b7_audit 22 = .ok (.iconst 0, 1) := by decide +kernel
theorem d7_audit_23 : decode b7_audit 23 = .ok (.istore 4, 2) := by decide +kernel
theorem d7_audit_25 : decode b7_audit 25 = .ok (.iload 4, 2) := by decide +kernel
theorem d7_audit_27 : decode b7_audit 27 = .ok (.aload_n 0, 1) := by decide +kernel
theorem d7_audit_28 : decode b7_audit 28 = .ok (.getfield 130, 3) := by decide +kernel
theorem d7_audit_31 : decode b7_audit 31 = .ok (.if_icmp .ge 112, 3) := by decide +kernel
theorem d7_audit_34 : decode b7_audit 34 = .ok (.aload_n 0, 1) := by decide +kernel
theorem d7_audit_35 : decode b7_audit 35 = .ok (.getfield 84, 3) := by decide +kernel
theorem d7_audit_38 : decode b7_audit 38 = .ok (.bipush 6, 2) := by decide +kernel
theorem d7_audit_40 : decode b7_audit 40 = .ok (.iload 4, 2) := by decide +kernel
theorem d7_audit_42 : decode b7_audit 42 = .ok (.imul, 1) := by decide +kernel
theorem d7_audit_43 : decode b7_audit 43 = .ok (.iaload, 1) := by decide +kernel
theorem d7_audit_44 : decode b7_audit 44 = .ok (.istore 5, 2) := by decide +kernel
theorem d7_audit_46 : decode b7_audit 46 = .ok (.aload_n 0, 1) := by decide +kernel
theorem d7_audit_47 : decode b7_audit 47 = .ok (.getfield 84, 3) := by decide +kernel
theorem d7_audit_50 : decode b7_audit 50 = .ok (.bipush 6, 2) := by decide +kernel
theorem d7_audit_52 : decode b7_audit 52 = .ok (.iload 4, 2) := by decide +kernel
theorem d7_audit_54 : decode b7_audit 54 = .ok (.imul, 1) := by decide +kernel
theorem d7_audit_55 : decode b7_audit 55 = .ok (.iconst 3, 1) := by decide +kernel
theorem d7_audit_56 : decode b7_audit 56 = .ok (.iadd, 1) := by decide +kernel
theorem d7_audit_57 : decode b7_audit 57 = .ok (.iaload, 1) := by decide +kernel
theorem d7_audit_58 : decode b7_audit 58 = .ok (.iload_n 2, 1) := by decide +kernel
theorem d7_audit_59 : decode b7_audit 59 = .ok (.if_icmp .ne 7, 3) := by decide +kernel
theorem d7_audit_62 : decode b7_audit 62 = .ok (.iconst 1, 1) := by decide +kernel
theorem d7_audit_63 : decode b7_audit 63 = .ok (.goto 4, 3) := by decide +kernel
theorem d7_audit_66 : decode b7_audit 66 = .ok (.iconst 0, 1) := by decide +kernel
theorem d7_audit_67 : decode b7_audit 67 = .ok (.istore 6, 2) := by decide +kernel
theorem d7_audit_69 : decode b7_audit 69 = .ok (.iload_n 3, 1) := by decide +kernel
theorem d7_audit_70 : decode b7_audit 70 = .ok (.iload 6, 2) := by decide +kernel
theorem d7_audit_72 : decode b7_audit 72 = .ok (.ifCond .ne 7, 3) := by decide +kernel
theorem d7_audit_75 : decode b7_audit 75 = .ok (.iconst 0, 1) := by decide +kernel
theorem d7_audit_76 : decode b7_audit 76 = .ok (.goto 59, 3) := by decide +kernel
theorem d7_audit_79 : decode b7_audit 79 = .ok (.iload 5, 2) := by decide +kernel
theorem d7_audit_81 : decode b7_audit 81 = .ok (.iconst 1, 1) := by decide +kernel
theorem d7_audit_82 : decode b7_audit 82 = .ok (.if_icmp .eq 9, 3) := by decide +kernel
theorem d7_audit_85 : decode b7_audit 85 = .ok (.iload 5, 2) := by decide +kernel
theorem d7_audit_87 : decode b7_audit 87 = .ok (.iconst 3, 1) := by decide +kernel
theorem d7_audit_88 : decode b7_audit 88 = .ok (.if_icmp .ne 18, 3) := by decide +kernel
theorem d7_audit_91 : decode b7_audit 91 = .ok (.aload_n 0, 1) := by decide +kernel
theorem d7_audit_92 : decode b7_audit 92 = .ok (.getfield 84, 3) := by decide +kernel
theorem d7_audit_95 : decode b7_audit 95 = .ok (.bipush 6, 2) := by decide +kernel
theorem d7_audit_97 : decode b7_audit 97 = .ok (.iload 4, 2) := by decide +kernel
theorem d7_audit_99 : decode b7_audit 99 = .ok (.imul, 1) := by decide +kernel
theorem d7_audit_100 : decode b7_audit 100 = .ok (.iconst 4, 1) := by decide +kernel
theorem d7_audit_101 : decode b7_audit 101 = .ok (.iadd, 1) := by decide +kernel
theorem d7_audit_102 : decode b7_audit 102 = .ok (.iaload, 1) := by decide +kernel
theorem d7_audit_103 : decode b7_audit 103 = .ok (.goto 32, 3) := by decide +kernel
theorem d7_audit_106 : decode b7_audit 106 = .ok (.iload 5, 2) := by decide +kernel
theorem d7_audit_108 : decode b7_audit 108 = .ok (.iconst 2, 1) := by decide +kernel
theorem d7_audit_109 : decode b7_audit 109 = .ok (.if_icmp .eq 9, 3) := by decide +kernel
theorem d7_audit_112 : decode b7_audit 112 = .ok (.iload 5, 2) := by decide +kernel
theorem d7_audit_114 : decode b7_audit 114 = .ok (.iconst 4, 1) := by decide +kernel
theorem d7_audit_115 : decode b7_audit 115 = .ok (.if_icmp .ne 19, 3) := by decide +kernel
theorem d7_audit_118 : decode b7_audit 118 = .ok (.aload_n 0, 1) := by decide +kernel
theorem d7_audit_119 : decode b7_audit 119 = .ok (.getfield 84, 3) := by decide +kernel
theorem d7_audit_122 : decode b7_audit 122 = .ok (.bipush 6, 2) := by decide +kernel
theorem d7_audit_124 : decode b7_audit 124 = .ok (.iload 4, 2) := by decide +kernel
theorem d7_audit_126 : decode b7_audit 126 = .ok (.imul, 1) := by decide +kernel
theorem d7_audit_127 : decode b7_audit 127 = .ok (.iconst 4, 1) := by decide +kernel
theorem d7_audit_128 : decode b7_audit 128 = .ok (.iadd, 1) := by decide +kernel
theorem d7_audit_129 : decode b7_audit 129 = .ok (.iaload, 1) := by decide +kernel
theorem d7_audit_130 : decode b7_audit 130 = .ok (.ineg, 1) := by decide +kernel
theorem d7_audit_131 : decode b7_audit 131 = .ok (.goto 4, 3) := by decide +kernel
theorem d7_audit_134 : decode b7_audit 134 = .ok (.iconst 0, 1) := by decide +kernel
theorem d7_audit_135 : decode b7_audit 135 = .ok (.iadd, 1) := by decide +kernel
theorem d7_audit_136 : decode b7_audit 136 = .ok (.istore_n 3, 1) := by decide +kernel
theorem d7_audit_137 : decode b7_audit 137 = .ok (.iinc 4 1, 3) := by decide +kernel
theorem d7_audit_140 : decode b7_audit 140 = .ok (.goto (-115), 3) := by decide +kernel
theorem d7_audit_143 : decode b7_audit 143 = .ok (.iload_n 1, 1) := by decide +kernel
theorem d7_audit_144 : decode b7_audit 144 = .ok (.iload_n 3, 1) := by decide +kernel
theorem d7_audit_145 : decode b7_audit 145 = .ok (.aload_n 0, 1) := by decide +kernel
theorem d7_audit_146 : decode b7_audit 146 = .ok (.iload_n 2, 1) := by decide +kernel
theorem d7_audit_147 : decode b7_audit 147 = .ok (.invokevirtual 169, 3) := by decide +kernel
theorem d7_audit_150 : decode b7_audit 150 = .ok (.if_icmp .ne 7, 3) := by decide +kernel
theorem d7_audit_153 : decode b7_audit 153 = .ok (.iconst 0, 1) := by decide +kernel
theorem d7_audit_154 : decode b7_audit 154 = .ok (.goto 4, 3) := by decide +kernel
theorem d7_audit_157 : decode b7_audit 157 = .ok (.iconst 1, 1) := by decide +kernel
theorem d7_audit_158 : decode b7_audit 158 = .ok (.iadd, 1) := by decide +kernel
theorem d7_audit_159 : decode b7_audit 159 = .ok (.istore_n 1, 1) := by decide +kernel
theorem d7_audit_160 : decode b7_audit 160 = .ok (.iinc 2 1, 3) := by decide +kernel
theorem d7_audit_163 : decode b7_audit 163 = .ok (.goto (-149), 3) := by decide +kernel
theorem d7_audit_166 : decode b7_audit 166 = .ok (.iload_n 1, 1) := by decide +kernel
theorem d7_audit_167 : decode b7_audit 167 = .ok (.ireturn, 1) := by decide +kernel
