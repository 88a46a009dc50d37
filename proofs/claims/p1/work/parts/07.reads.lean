theorem dX4_checkFinder_0 : decode cX4_checkFinder 0 = .ok (.aload_n 0, 1) := by decide +kernel
theorem dX4_checkFinder_1 : decode cX4_checkFinder 1 = .ok (.iload_n 1, 1) := by decide +kernel
theorem dX4_checkFinder_2 : decode cX4_checkFinder 2 = .ok (.invokevirtual 260, 3) := by decide +kernel
theorem dX4_checkFinder_5 : decode cX4_checkFinder 5 = .ok (.ifCond .eq 10, 3) := by decide +kernel
theorem dX4_checkFinder_15 : decode cX4_checkFinder 15 = .ok (.new 120, 3) := by decide +kernel
theorem dX4_checkFinder_18 : decode cX4_checkFinder 18 = .ok (.dup, 1) := by decide +kernel
theorem dX4_checkFinder_19 : decode cX4_checkFinder 19 = .ok (.ldc_w 300, 3) := by decide +kernel
theorem dX4_checkFinder_22 : decode cX4_checkFinder 22 = .ok (.invokespecial 124, 3) := by decide +kernel
theorem dX4_checkFinder_25 : decode cX4_checkFinder 25 = .ok (.athrow, 1) := by decide +kernel
theorem dX4_checkInterfaces_0 : decode cX4_checkInterfaces 0 = .ok (.iload_n 0, 1) := by decide +kernel
theorem dX4_checkInterfaces_1 : decode cX4_checkInterfaces 1 = .ok (.ifCond .lt 10, 3) := by decide +kernel
theorem dX4_checkInterfaces_4 : decode cX4_checkInterfaces 4 = .ok (.iload_n 0, 1) := by decide +kernel
theorem dX4_checkInterfaces_5 : decode cX4_checkInterfaces 5 = .ok (.sipush 4096, 3) := by decide +kernel
theorem dX4_checkInterfaces_8 : decode cX4_checkInterfaces 8 = .ok (.if_icmp .lt 14, 3) := by decide +kernel
theorem dX4_checkInterfaces_11 : decode cX4_checkInterfaces 11 = .ok (.new 45, 3) := by decide +kernel
theorem dX4_checkInterfaces_14 : decode cX4_checkInterfaces 14 = .ok (.dup, 1) := by decide +kernel
theorem dX4_checkInterfaces_15 : decode cX4_checkInterfaces 15 = .ok (.ldc_w 272, 3) := by decide +kernel
theorem dX4_checkInterfaces_18 : decode cX4_checkInterfaces 18 = .ok (.invokespecial 49, 3) := by decide +kernel
theorem dX4_checkInterfaces_21 : decode cX4_checkInterfaces 21 = .ok (.athrow, 1) := by decide +kernel
theorem dX4_checkInterfaces_22 : decode cX4_checkInterfaces 22 = .ok (.return_, 1) := by decide +kernel
theorem dX4_checkNumber_0 : decode cX4_checkNumber 0 = .ok (.iload_n 0, 1) := by decide +kernel
theorem dX4_checkNumber_1 : decode cX4_checkNumber 1 = .ok (.invokestatic 290, 3) := by decide +kernel
theorem dX4_checkNumber_4 : decode cX4_checkNumber 4 = .ok (.ifCond .ne 14, 3) := by decide +kernel
theorem dX4_checkNumber_7 : decode cX4_checkNumber 7 = .ok (.new 120, 3) := by decide +kernel
theorem dX4_checkNumber_10 : decode cX4_checkNumber 10 = .ok (.dup, 1) := by decide +kernel
theorem dX4_checkNumber_11 : decode cX4_checkNumber 11 = .ok (.ldc_w 293, 3) := by decide +kernel
theorem dX4_checkNumber_14 : decode cX4_checkNumber 14 = .ok (.invokespecial 124, 3) := by decide +kernel
theorem dX4_checkNumber_17 : decode cX4_checkNumber 17 = .ok (.athrow, 1) := by decide +kernel
theorem dX4_checkNumber_18 : decode cX4_checkNumber 18 = .ok (.return_, 1) := by decide +kernel
theorem dX4_checkNumberAndName_0 : decode cX4_checkNumberAndName 0 = .ok (.iload_n 0, 1) := by decide +kernel
theorem dX4_checkNumberAndName_1 : decode cX4_checkNumberAndName 1 = .ok (.invokestatic 131, 3) := by decide +kernel
theorem dX4_checkNumberAndName_4 : decode cX4_checkNumberAndName 4 = .ok (.iload_n 1, 1) := by decide +kernel
theorem dX4_checkNumberAndName_5 : decode cX4_checkNumberAndName 5 = .ok (.invokestatic 295, 3) := by decide +kernel
theorem dX4_checkNumberAndName_8 : decode cX4_checkNumberAndName 8 = .ok (.ifCond .ne 14, 3) := by decide +kernel
theorem dX4_checkNumberAndName_11 : decode cX4_checkNumberAndName 11 = .ok (.new 120, 3) := by decide +kernel
theorem dX4_checkNumberAndName_14 : decode cX4_checkNumberAndName 14 = .ok (.dup, 1) := by decide +kernel
theorem dX4_checkNumberAndName_15 : decode cX4_checkNumberAndName 15 = .ok (.ldc_w 298, 3) := by decide +kernel
theorem dX4_checkNumberAndName_18 : decode cX4_checkNumberAndName 18 = .ok (.invokespecial 124, 3) := by decide +kernel
theorem dX4_checkNumberAndName_21 : decode cX4_checkNumberAndName 21 = .ok (.athrow, 1) := by decide +kernel
theorem dX4_checkNumberAndName_22 : decode cX4_checkNumberAndName 22 = .ok (.return_, 1) := by decide +kernel
theorem dX4_checkThereIsRoom_0 : decode cX4_checkThereIsRoom 0 = .ok (.aload_n 0, 1) := by decide +kernel
theorem dX4_checkThereIsRoom_1 : decode cX4_checkThereIsRoom 1 = .ok (.getfield 12, 3) := by decide +kernel
theorem dX4_checkThereIsRoom_4 : decode cX4_checkThereIsRoom 4 = .ok (.getfield 41, 3) := by decide +kernel
theorem dX4_checkThereIsRoom_7 : decode cX4_checkThereIsRoom 7 = .ok (.bipush 12, 2) := by decide +kernel
theorem dX4_checkThereIsRoom_9 : decode cX4_checkThereIsRoom 9 = .ok (.if_icmp .lt 14, 3) := by decide +kernel
theorem dX4_checkThereIsRoom_23 : decode cX4_checkThereIsRoom 23 = .ok (.return_, 1) := by decide +kernel
theorem dX4_checkTold_0 : decode cX4_checkTold 0 = .ok (.aload_n 0, 1) := by decide +kernel
theorem dX4_checkTold_1 : decode cX4_checkTold 1 = .ok (.iload_n 1, 1) := by decide +kernel
theorem dX4_checkTold_2 : decode cX4_checkTold 2 = .ok (.invokevirtual 276, 3) := by decide +kernel
theorem dX4_checkTold_5 : decode cX4_checkTold 5 = .ok (.ifCond .ne 14, 3) := by decide +kernel
theorem dX4_checkTold_8 : decode cX4_checkTold 8 = .ok (.new 120, 3) := by decide +kernel
theorem dX4_checkTold_11 : decode cX4_checkTold 11 = .ok (.dup, 1) := by decide +kernel
theorem dX4_checkTold_12 : decode cX4_checkTold 12 = .ok (.ldc_w 279, 3) := by decide +kernel
theorem dX4_checkTold_15 : decode cX4_checkTold 15 = .ok (.invokespecial 124, 3) := by decide +kernel
theorem dX4_checkTold_18 : decode cX4_checkTold 18 = .ok (.athrow, 1) := by decide +kernel
theorem dX4_checkToldAndName_0 : decode cX4_checkToldAndName 0 = .ok (.aload_n 0, 1) := by decide +kernel
theorem dX4_checkToldAndName_1 : decode cX4_checkToldAndName 1 = .ok (.iload_n 1, 1) := by decide +kernel
theorem dX4_checkToldAndName_2 : decode cX4_checkToldAndName 2 = .ok (.invokevirtual 108, 3) := by decide +kernel
theorem dX4_countClasses_0 : decode cX4_countClasses 0 = .ok (.iconst 0, 1) := by decide +kernel
theorem dX4_countClasses_1 : decode cX4_countClasses 1 = .ok (.istore_n 3, 1) := by decide +kernel
theorem dX4_countClasses_2 : decode cX4_countClasses 2 = .ok (.iconst 0, 1) := by decide +kernel
theorem dX4_countClasses_3 : decode cX4_countClasses 3 = .ok (.istore 4, 2) := by decide +kernel
theorem dX4_countClasses_5 : decode cX4_countClasses 5 = .ok (.iload 4, 2) := by decide +kernel
theorem dX4_countClasses_7 : decode cX4_countClasses 7 = .ok (.aload_n 0, 1) := by decide +kernel
theorem dX4_countClasses_8 : decode cX4_countClasses 8 = .ok (.getfield 12, 3) := by decide +kernel
theorem dX4_countClasses_11 : decode cX4_countClasses 11 = .ok (.getfield 41, 3) := by decide +kernel
theorem dX4_countClasses_14 : decode cX4_countClasses 14 = .ok (.if_icmp .ge 20, 3) := by decide +kernel
theorem dX4_countClasses_34 : decode cX4_countClasses 34 = .ok (.iload_n 3, 1) := by decide +kernel
theorem dX4_countClasses_35 : decode cX4_countClasses 35 = .ok (.ireturn, 1) := by decide +kernel
theorem dX4_countPlaces_0 : decode cX4_countPlaces 0 = .ok (.iconst 0, 1) := by decide +kernel
theorem dX4_countPlaces_1 : decode cX4_countPlaces 1 = .ok (.istore_n 1, 1) := by decide +kernel
theorem dX4_countPlaces_2 : decode cX4_countPlaces 2 = .ok (.iconst 0, 1) := by decide +kernel
theorem dX4_countPlaces_3 : decode cX4_countPlaces 3 = .ok (.istore_n 2, 1) := by decide +kernel
theorem dX4_countPlaces_4 : decode cX4_countPlaces 4 = .ok (.iload_n 2, 1) := by decide +kernel
theorem dX4_countPlaces_5 : decode cX4_countPlaces 5 = .ok (.aload_n 0, 1) := by decide +kernel
theorem dX4_countPlaces_6 : decode cX4_countPlaces 6 = .ok (.getfield 12, 3) := by decide +kernel
theorem dX4_countPlaces_9 : decode cX4_countPlaces 9 = .ok (.getfield 41, 3) := by decide +kernel
theorem dX4_countPlaces_12 : decode cX4_countPlaces 12 = .ok (.if_icmp .ge 42, 3) := by decide +kernel
theorem dX4_countPlaces_54 : decode cX4_countPlaces 54 = .ok (.iload_n 1, 1) := by decide +kernel
theorem dX4_countPlaces_55 : decode cX4_countPlaces 55 = .ok (.ireturn, 1) := by decide +kernel
theorem dX4_field_0 : decode cX4_field 0 = .ok (.aload_n 0, 1) := by decide +kernel
theorem dX4_field_1 : decode cX4_field 1 = .ok (.iload_n 1, 1) := by decide +kernel
theorem dX4_field_2 : decode cX4_field 2 = .ok (.invokevirtual 108, 3) := by decide +kernel
theorem dX4_finds_0 : decode cX4_finds 0 = .ok (.aload_n 0, 1) := by decide +kernel
theorem dX4_finds_1 : decode cX4_finds 1 = .ok (.iload_n 1, 1) := by decide +kernel
theorem dX4_finds_2 : decode cX4_finds 2 = .ok (.iload_n 2, 1) := by decide +kernel
theorem dX4_finds_3 : decode cX4_finds 3 = .ok (.invokevirtual 170, 3) := by decide +kernel
theorem dX4_first_0 : decode cX4_first 0 = .ok (.aload_n 0, 1) := by decide +kernel
theorem dX4_first_1 : decode cX4_first 1 = .ok (.iload_n 1, 1) := by decide +kernel
theorem dX4_first_2 : decode cX4_first 2 = .ok (.invokevirtual 108, 3) := by decide +kernel
theorem dX4_isPlace_0 : decode cX4_isPlace 0 = .ok (.aload_n 0, 1) := by decide +kernel
theorem dX4_isPlace_1 : decode cX4_isPlace 1 = .ok (.iload_n 1, 1) := by decide +kernel
theorem dX4_isPlace_2 : decode cX4_isPlace 2 = .ok (.invokevirtual 276, 3) := by decide +kernel
theorem dX4_isPlace_5 : decode cX4_isPlace 5 = .ok (.ifCond .eq 43, 3) := by decide +kernel
theorem dX4_isPlace_48 : decode cX4_isPlace 48 = .ok (.iconst 0, 1) := by decide +kernel
theorem dX4_isPlace_49 : decode cX4_isPlace 49 = .ok (.ireturn, 1) := by decide +kernel
theorem dX4_isPlainAndLoaded_0 : decode cX4_isPlainAndLoaded 0 = .ok (.aload_n 0, 1) := by decide +kernel
theorem dX4_isPlainAndLoaded_1 : decode cX4_isPlainAndLoaded 1 = .ok (.iload_n 1, 1) := by decide +kernel
theorem dX4_isPlainAndLoaded_2 : decode cX4_isPlainAndLoaded 2 = .ok (.invokevirtual 276, 3) := by decide +kernel
theorem dX4_isPlainAndLoaded_5 : decode cX4_isPlainAndLoaded 5 = .ok (.ifCond .eq 32, 3) := by decide +kernel
theorem dX4_isPlainAndLoaded_37 : decode cX4_isPlainAndLoaded 37 = .ok (.iconst 0, 1) := by decide +kernel
theorem dX4_isPlainAndLoaded_38 : decode cX4_isPlainAndLoaded 38 = .ok (.ireturn, 1) := by decide +kernel
theorem dX4_isTold_0 : decode cX4_isTold 0 = .ok (.iload_n 1, 1) := by decide +kernel
theorem dX4_isTold_1 : decode cX4_isTold 1 = .ok (.ifCond .lt 18, 3) := by decide +kernel
theorem dX4_isTold_4 : decode cX4_isTold 4 = .ok (.iload_n 1, 1) := by decide +kernel
theorem dX4_isTold_5 : decode cX4_isTold 5 = .ok (.aload_n 0, 1) := by decide +kernel
theorem dX4_isTold_6 : decode cX4_isTold 6 = .ok (.getfield 12, 3) := by decide +kernel
theorem dX4_isTold_9 : decode cX4_isTold 9 = .ok (.getfield 41, 3) := by decide +kernel
theorem dX4_isTold_12 : decode cX4_isTold 12 = .ok (.if_icmp .ge 7, 3) := by decide +kernel
theorem dX4_isTold_19 : decode cX4_isTold 19 = .ok (.iconst 0, 1) := by decide +kernel
theorem dX4_isTold_20 : decode cX4_isTold 20 = .ok (.ireturn, 1) := by decide +kernel
theorem dX4_many_0 : decode cX4_many 0 = .ok (.iload_n 1, 1) := by decide +kernel
theorem dX4_many_1 : decode cX4_many 1 = .ok (.tableswitch 220 0 13 #[71, 79, 92, 105, 118, 131, 136, 148, 160, 172, 184, 196, 204, 212], 71) := by decide +kernel
theorem dX4_many_72 : decode cX4_many 72 = .ok (.aload_n 0, 1) := by decide +kernel
theorem dX4_many_73 : decode cX4_many 73 = .ok (.getfield 12, 3) := by decide +kernel
theorem dX4_many_76 : decode cX4_many 76 = .ok (.getfield 41, 3) := by decide +kernel
theorem dX4_many_79 : decode cX4_many 79 = .ok (.ireturn, 1) := by decide +kernel
theorem dX4_many_80 : decode cX4_many 80 = .ok (.aload_n 0, 1) := by decide +kernel
theorem dX4_many_81 : decode cX4_many 81 = .ok (.aload_n 0, 1) := by decide +kernel
theorem dX4_many_82 : decode cX4_many 82 = .ok (.getfield 28, 3) := by decide +kernel
theorem dX4_many_85 : decode cX4_many 85 = .ok (.getfield 144, 3) := by decide +kernel
theorem dX4_many_88 : decode cX4_many 88 = .ok (.iconst 0, 1) := by decide +kernel
theorem dX4_many_89 : decode cX4_many 89 = .ok (.invokevirtual 207, 3) := by decide +kernel
theorem dX4_many_92 : decode cX4_many 92 = .ok (.ireturn, 1) := by decide +kernel
theorem dX4_many_93 : decode cX4_many 93 = .ok (.aload_n 0, 1) := by decide +kernel
theorem dX4_many_94 : decode cX4_many 94 = .ok (.aload_n 0, 1) := by decide +kernel
theorem dX4_many_95 : decode cX4_many 95 = .ok (.getfield 28, 3) := by decide +kernel
theorem dX4_many_98 : decode cX4_many 98 = .ok (.getfield 144, 3) := by decide +kernel
theorem dX4_many_101 : decode cX4_many 101 = .ok (.iconst 1, 1) := by decide +kernel
theorem dX4_many_102 : decode cX4_many 102 = .ok (.invokevirtual 207, 3) := by decide +kernel
theorem dX4_many_105 : decode cX4_many 105 = .ok (.ireturn, 1) := by decide +kernel
theorem dX4_many_106 : decode cX4_many 106 = .ok (.aload_n 0, 1) := by decide +kernel
theorem dX4_many_107 : decode cX4_many 107 = .ok (.aload_n 0, 1) := by decide +kernel
theorem dX4_many_108 : decode cX4_many 108 = .ok (.getfield 28, 3) := by decide +kernel
theorem dX4_many_111 : decode cX4_many 111 = .ok (.getfield 144, 3) := by decide +kernel
theorem dX4_many_114 : decode cX4_many 114 = .ok (.iconst 2, 1) := by decide +kernel
theorem dX4_many_115 : decode cX4_many 115 = .ok (.invokevirtual 207, 3) := by decide +kernel
theorem dX4_many_118 : decode cX4_many 118 = .ok (.ireturn, 1) := by decide +kernel
theorem dX4_many_119 : decode cX4_many 119 = .ok (.aload_n 0, 1) := by decide +kernel
theorem dX4_many_120 : decode cX4_many 120 = .ok (.aload_n 0, 1) := by decide +kernel
theorem dX4_many_121 : decode cX4_many 121 = .ok (.getfield 28, 3) := by decide +kernel
theorem dX4_many_124 : decode cX4_many 124 = .ok (.getfield 150, 3) := by decide +kernel
theorem dX4_many_127 : decode cX4_many 127 = .ok (.iconst 2, 1) := by decide +kernel
theorem dX4_many_128 : decode cX4_many 128 = .ok (.invokevirtual 207, 3) := by decide +kernel
theorem dX4_many_131 : decode cX4_many 131 = .ok (.ireturn, 1) := by decide +kernel
theorem dX4_many_132 : decode cX4_many 132 = .ok (.aload_n 0, 1) := by decide +kernel
theorem dX4_many_133 : decode cX4_many 133 = .ok (.invokevirtual 211, 3) := by decide +kernel
theorem dX4_many_136 : decode cX4_many 136 = .ok (.ireturn, 1) := by decide +kernel
theorem dX4_many_137 : decode cX4_many 137 = .ok (.aload_n 0, 1) := by decide +kernel
theorem dX4_many_138 : decode cX4_many 138 = .ok (.aload_n 0, 1) := by decide +kernel
theorem dX4_many_139 : decode cX4_many 139 = .ok (.getfield 28, 3) := by decide +kernel
theorem dX4_many_142 : decode cX4_many 142 = .ok (.getfield 184, 3) := by decide +kernel
theorem dX4_many_145 : decode cX4_many 145 = .ok (.invokevirtual 215, 3) := by decide +kernel
theorem dX4_many_148 : decode cX4_many 148 = .ok (.ireturn, 1) := by decide +kernel
theorem dX4_many_149 : decode cX4_many 149 = .ok (.aload_n 0, 1) := by decide +kernel
theorem dX4_many_150 : decode cX4_many 150 = .ok (.aload_n 0, 1) := by decide +kernel
theorem dX4_many_151 : decode cX4_many 151 = .ok (.getfield 28, 3) := by decide +kernel
theorem dX4_many_154 : decode cX4_many 154 = .ok (.getfield 196, 3) := by decide +kernel
theorem dX4_many_157 : decode cX4_many 157 = .ok (.invokevirtual 215, 3) := by decide +kernel
theorem dX4_many_160 : decode cX4_many 160 = .ok (.ireturn, 1) := by decide +kernel
theorem dX4_many_161 : decode cX4_many 161 = .ok (.aload_n 0, 1) := by decide +kernel
theorem dX4_many_162 : decode cX4_many 162 = .ok (.aload_n 0, 1) := by decide +kernel
theorem dX4_many_163 : decode cX4_many 163 = .ok (.getfield 28, 3) := by decide +kernel
theorem dX4_many_166 : decode cX4_many 166 = .ok (.getfield 199, 3) := by decide +kernel
theorem dX4_many_169 : decode cX4_many 169 = .ok (.invokevirtual 215, 3) := by decide +kernel
theorem dX4_many_172 : decode cX4_many 172 = .ok (.ireturn, 1) := by decide +kernel
theorem dX4_many_173 : decode cX4_many 173 = .ok (.aload_n 0, 1) := by decide +kernel
theorem dX4_many_174 : decode cX4_many 174 = .ok (.aload_n 0, 1) := by decide +kernel
theorem dX4_many_175 : decode cX4_many 175 = .ok (.getfield 28, 3) := by decide +kernel
theorem dX4_many_178 : decode cX4_many 178 = .ok (.getfield 190, 3) := by decide +kernel
theorem dX4_many_181 : decode cX4_many 181 = .ok (.invokevirtual 215, 3) := by decide +kernel
theorem dX4_many_184 : decode cX4_many 184 = .ok (.ireturn, 1) := by decide +kernel
theorem dX4_many_185 : decode cX4_many 185 = .ok (.aload_n 0, 1) := by decide +kernel
theorem dX4_many_186 : decode cX4_many 186 = .ok (.aload_n 0, 1) := by decide +kernel
theorem dX4_many_187 : decode cX4_many 187 = .ok (.getfield 28, 3) := by decide +kernel
theorem dX4_many_190 : decode cX4_many 190 = .ok (.getfield 193, 3) := by decide +kernel
theorem dX4_many_193 : decode cX4_many 193 = .ok (.invokevirtual 215, 3) := by decide +kernel
theorem dX4_many_196 : decode cX4_many 196 = .ok (.ireturn, 1) := by decide +kernel
theorem dX4_many_197 : decode cX4_many 197 = .ok (.aload_n 0, 1) := by decide +kernel
theorem dX4_many_198 : decode cX4_many 198 = .ok (.getfield 28, 3) := by decide +kernel
theorem dX4_many_201 : decode cX4_many 201 = .ok (.getfield 219, 3) := by decide +kernel
theorem dX4_many_204 : decode cX4_many 204 = .ok (.ireturn, 1) := by decide +kernel
theorem dX4_many_205 : decode cX4_many 205 = .ok (.aload_n 0, 1) := by decide +kernel
theorem dX4_many_206 : decode cX4_many 206 = .ok (.getfield 28, 3) := by decide +kernel
theorem dX4_many_209 : decode cX4_many 209 = .ok (.getfield 222, 3) := by decide +kernel
theorem dX4_many_212 : decode cX4_many 212 = .ok (.ireturn, 1) := by decide +kernel
theorem dX4_many_213 : decode cX4_many 213 = .ok (.aload_n 0, 1) := by decide +kernel
theorem dX4_many_214 : decode cX4_many 214 = .ok (.getfield 28, 3) := by decide +kernel
theorem dX4_many_217 : decode cX4_many 217 = .ok (.getfield 225, 3) := by decide +kernel
theorem dX4_many_220 : decode cX4_many 220 = .ok (.ireturn, 1) := by decide +kernel
theorem dX4_many_221 : decode cX4_many 221 = .ok (.new 45, 3) := by decide +kernel
theorem dX4_many_224 : decode cX4_many 224 = .ok (.dup, 1) := by decide +kernel
theorem dX4_many_225 : decode cX4_many 225 = .ok (.ldc 228, 2) := by decide +kernel
theorem dX4_many_227 : decode cX4_many 227 = .ok (.invokespecial 49, 3) := by decide +kernel
theorem dX4_many_230 : decode cX4_many 230 = .ok (.athrow, 1) := by decide +kernel
theorem dX4_meanCost_0 : decode cX4_meanCost 0 = .ok (.aload_n 0, 1) := by decide +kernel
theorem dX4_meanCost_1 : decode cX4_meanCost 1 = .ok (.getfield 28, 3) := by decide +kernel
theorem dX4_meanCost_4 : decode cX4_meanCost 4 = .ok (.getfield 219, 3) := by decide +kernel
theorem dX4_meanCost_7 : decode cX4_meanCost 7 = .ok (.ifCond .ne 7, 3) := by decide +kernel
theorem dX4_meanCost_10 : decode cX4_meanCost 10 = .ok (.dconst 0, 1) := by decide +kernel
theorem dX4_meanCost_11 : decode cX4_meanCost 11 = .ok (.goto 20, 3) := by decide +kernel
theorem dX4_meanCost_31 : decode cX4_meanCost 31 = .ok (.dreturn, 1) := by decide +kernel
theorem dX4_method_0 : decode cX4_method 0 = .ok (.aload_n 0, 1) := by decide +kernel
theorem dX4_method_1 : decode cX4_method 1 = .ok (.iload_n 1, 1) := by decide +kernel
theorem dX4_method_2 : decode cX4_method 2 = .ok (.iload_n 2, 1) := by decide +kernel
theorem dX4_method_3 : decode cX4_method 3 = .ok (.invokevirtual 63, 3) := by decide +kernel
theorem dX4_ofClass_0 : decode cX4_ofClass 0 = .ok (.aload_n 0, 1) := by decide +kernel
theorem dX4_ofClass_1 : decode cX4_ofClass 1 = .ok (.iload_n 1, 1) := by decide +kernel
theorem dX4_ofClass_2 : decode cX4_ofClass 2 = .ok (.invokevirtual 108, 3) := by decide +kernel
theorem dX4_ofPlace_0 : decode cX4_ofPlace 0 = .ok (.aload_n 0, 1) := by decide +kernel
theorem dX4_ofPlace_1 : decode cX4_ofPlace 1 = .ok (.iload_n 1, 1) := by decide +kernel
theorem dX4_ofPlace_2 : decode cX4_ofPlace 2 = .ok (.iload_n 2, 1) := by decide +kernel
theorem dX4_ofPlace_3 : decode cX4_ofPlace 3 = .ok (.iload_n 3, 1) := by decide +kernel
theorem dX4_ofPlace_4 : decode cX4_ofPlace 4 = .ok (.invokevirtual 179, 3) := by decide +kernel
theorem dX4_ofPlace_7 : decode cX4_ofPlace 7 = .ok (.ifCond .ne 13, 3) := by decide +kernel
theorem dX4_ofPlace_10 : decode cX4_ofPlace 10 = .ok (.new 120, 3) := by decide +kernel
theorem dX4_ofPlace_13 : decode cX4_ofPlace 13 = .ok (.dup, 1) := by decide +kernel
theorem dX4_ofPlace_14 : decode cX4_ofPlace 14 = .ok (.ldc 182, 2) := by decide +kernel
theorem dX4_ofPlace_16 : decode cX4_ofPlace 16 = .ok (.invokespecial 124, 3) := by decide +kernel
theorem dX4_ofPlace_19 : decode cX4_ofPlace 19 = .ok (.athrow, 1) := by decide +kernel
theorem dX4_open_0 : decode cX4_open 0 = .ok (.aload_n 0, 1) := by decide +kernel
theorem dX4_open_1 : decode cX4_open 1 = .ok (.iload_n 1, 1) := by decide +kernel
theorem dX4_open_2 : decode cX4_open 2 = .ok (.iload_n 2, 1) := by decide +kernel
theorem dX4_open_3 : decode cX4_open 3 = .ok (.invokevirtual 63, 3) := by decide +kernel
theorem dX4_slot_0 : decode cX4_slot 0 = .ok (.aload_n 0, 1) := by decide +kernel
theorem dX4_slot_1 : decode cX4_slot 1 = .ok (.iload_n 1, 1) := by decide +kernel
theorem dX4_slot_2 : decode cX4_slot 2 = .ok (.iload_n 2, 1) := by decide +kernel
theorem dX4_slot_3 : decode cX4_slot 3 = .ok (.invokevirtual 170, 3) := by decide +kernel
theorem dX4_step_0 : decode cX4_step 0 = .ok (.aload_n 0, 1) := by decide +kernel
theorem dX4_step_1 : decode cX4_step 1 = .ok (.iload_n 1, 1) := by decide +kernel
theorem dX4_step_2 : decode cX4_step 2 = .ok (.iload_n 2, 1) := by decide +kernel
theorem dX4_step_3 : decode cX4_step 3 = .ok (.invokevirtual 63, 3) := by decide +kernel
theorem dX4_sumOfPlaces_0 : decode cX4_sumOfPlaces 0 = .ok (.iconst 0, 1) := by decide +kernel
theorem dX4_sumOfPlaces_1 : decode cX4_sumOfPlaces 1 = .ok (.istore_n 2, 1) := by decide +kernel
theorem dX4_sumOfPlaces_2 : decode cX4_sumOfPlaces 2 = .ok (.iconst 0, 1) := by decide +kernel
theorem dX4_sumOfPlaces_3 : decode cX4_sumOfPlaces 3 = .ok (.istore_n 3, 1) := by decide +kernel
theorem dX4_sumOfPlaces_4 : decode cX4_sumOfPlaces 4 = .ok (.iload_n 3, 1) := by decide +kernel
theorem dX4_sumOfPlaces_5 : decode cX4_sumOfPlaces 5 = .ok (.aload_n 0, 1) := by decide +kernel
theorem dX4_sumOfPlaces_6 : decode cX4_sumOfPlaces 6 = .ok (.getfield 12, 3) := by decide +kernel
theorem dX4_sumOfPlaces_9 : decode cX4_sumOfPlaces 9 = .ok (.getfield 41, 3) := by decide +kernel
theorem dX4_sumOfPlaces_12 : decode cX4_sumOfPlaces 12 = .ok (.bipush 42, 2) := by decide +kernel
theorem dX4_sumOfPlaces_14 : decode cX4_sumOfPlaces 14 = .ok (.imul, 1) := by decide +kernel
theorem dX4_sumOfPlaces_15 : decode cX4_sumOfPlaces 15 = .ok (.if_icmp .ge 15, 3) := by decide +kernel
theorem dX4_sumOfPlaces_30 : decode cX4_sumOfPlaces 30 = .ok (.iload_n 2, 1) := by decide +kernel
theorem dX4_sumOfPlaces_31 : decode cX4_sumOfPlaces 31 = .ok (.ireturn, 1) := by decide +kernel
set_option maxHeartbeats 4000000 in
set_option maxRecDepth 100000 in
theorem c_X4_isTold (l : Launch) (D : va_G) (cI cZ cJ cG : ClassId) (sz : Nat) (h0 : Nat) (t : Nat) (fi : Nat) (st : Nat) (mc : Nat) (t1 : Nat) (t2 : Nat) (t3 : Nat) (t4 : Nat) (t5 : Nat) (t6 : Nat) (t7 : Nat) (t8 : Nat) (t9 : Nat) (p0 : Int32) : Met l yX4_isTold (pl_h yX4_isTold cX4_isTold 2 (some .boolean)) ({ frames := 0, cells := 0, slots := 0, locals := 0 }) (va_Pc [.ref h0, .int p0] (pn_B D (pn_Y cI cZ cJ cG) [(h0, .inr (4, [.ref t, .ref fi, .ref st, .ref mc])), (t, .inr (3, [.int 0, .ref t1, .ref t2, .ref t3, .ref t4, .ref t5, .ref t6, .ref t7, .ref t8, .ref t9]))] sz)) (va_Qi (fun (r : Int32) (u : Unit) => (r = 0 ∧ True)) (fun _ _ => True) (pn_N sz)) 0 0 (pn_N sz) := by
  refine Met.ofW (cc := cX4_isTold) (maxL := 2) (ret := (some .boolean)) (by decide) rfl ?_
  intro p e s m args below meth c s₁ B hml hv
  obtain ⟨rfl, hsz, hP, hK⟩ := hv
  have hx := B.exec
  have hb := B.bytes
  have hr := B.returns
  have hts0 := atoms_spec (ws := pl_h yX4_isTold cX4_isTold 2 (some .boolean)) B.pre
  have hts := fun (w : Cond) (h : w ∈ pw_all) => hts0 w (List.mem_cons_of_mem _ h)
  have hown : s.vm.findClass RX4 = some m.cls := findClass_of_methodNamed B.named
  have hlocks := B.notSynchronized
  subst hsz
  have hA : ∀ q : Nat, s.heap.size ≤ q → pn_N s.heap.size q := fun q h => h
  have hS : va_S (pn_N s.heap.size) s.heap s.heap [] := va_S.rf
  have hl := lv_entry ([.ref h0, .int p0]) (n := 2) (Nat.le_of_ble_eq_true rfl)
  rw [lg_entry_eq]
  generalize (lg_sl ([.ref h0, .int p0]) ++ List.replicate (2 - (lg_sl ([.ref h0, .int p0])).length) Slot.unset).toArray = ls at hl ⊢
  have hl : lv_has ls 2 [(0, .ref h0), (1, .int p0)] := hl
  refine lv_iload_n hx hb dX4_isTold_0 rfl (lv_at hl 1 rfl) ?_
  refine lv_if_lt (tgt := 19) hx hb dX4_isTold_1 (by decide) (fun c_1 => ?_) (fun c_1 => ?_)
  · simp only [pn_lt, pn_le, pn_eq, Int32.reduceToInt] at c_1
    refine lv_iconst (v := 0) hx hb dX4_isTold_19 (by decide) ?_
    exact W.zret (v := 0) (ty := .boolean) hx hb hr (by decide) (fun tz_ ht hW => ⟨⟨0, (), rfl, ⟨rfl, (by first | exact trivial | omega | (simp only [Int32.reduceToInt] at *; omega) | decide)⟩, trivial⟩, hS.F ht⟩) hS.2.2 dX4_isTold_20
  · simp only [pn_lt, pn_le, pn_eq, Int32.reduceToInt] at c_1
    refine lv_iload_n hx hb dX4_isTold_4 rfl (lv_at hl 1 rfl) ?_
    refine lv_aload_n hx hb dX4_isTold_5 rfl (lv_at hl 0 rfl) ?_
    refine va_get (D := D) (ci := 4) (v := .ref t) (C := RX4) (T := TX4) (N := 4) hx hb hts inlX4 hown hK hP 0 rfl rfl 0 (by decide) (hts (.fieldLink RX4 12 "VtableTown" "told" "LVtableTown$Told;") (pl_m 16 (by decide +kernel))) (fun _ h9 => h9) rfl dX4_isTold_6 ?_
    refine va_get (D := D) (ci := 3) (v := .int 0) (C := RX3) (T := TX3) (N := 10) hx hb hts inlX3 hown hK hP 1 rfl rfl 0 (by decide) (hts (.fieldLink RX4 41 "VtableTown$Told" "count" "I") (pl_m 118 (by decide +kernel))) (fun _ h9 => h9) rfl dX4_isTold_9 ?_
    refine lv_icmp_ge (tgt := 19) hx hb dX4_isTold_12 (by decide) (fun c_2 => ?_) (fun c_2 => ?_)
    · simp only [pn_lt, pn_le, pn_eq, Int32.reduceToInt] at c_2
      refine lv_iconst (v := 0) hx hb dX4_isTold_19 (by decide) ?_
      exact W.zret (v := 0) (ty := .boolean) hx hb hr (by decide) (fun tz_ ht hW => ⟨⟨0, (), rfl, ⟨rfl, (by first | exact trivial | omega | (simp only [Int32.reduceToInt] at *; omega) | decide)⟩, trivial⟩, hS.F ht⟩) hS.2.2 dX4_isTold_20
    · simp only [pn_lt, pn_le, pn_eq, Int32.reduceToInt] at c_2
      exfalso; omega
set_option maxHeartbeats 4000000 in
set_option maxRecDepth 100000 in
theorem c_X4_isPlainAndLoaded (l : Launch) (D : va_G) (cI cZ cJ cG : ClassId) (sz : Nat) (h0 : Nat) (t : Nat) (fi : Nat) (st : Nat) (mc : Nat) (t1 : Nat) (t2 : Nat) (t3 : Nat) (t4 : Nat) (t5 : Nat) (t6 : Nat) (t7 : Nat) (t8 : Nat) (t9 : Nat) (p0 : Int32) : Met l yX4_isPlainAndLoaded (pl_h yX4_isPlainAndLoaded cX4_isPlainAndLoaded 2 (some .boolean)) ({ frames := 1, cells := 0, slots := 0, locals := 21 }) (va_Pc [.ref h0, .int p0] (pn_B D (pn_Y cI cZ cJ cG) [(h0, .inr (4, [.ref t, .ref fi, .ref st, .ref mc])), (t, .inr (3, [.int 0, .ref t1, .ref t2, .ref t3, .ref t4, .ref t5, .ref t6, .ref t7, .ref t8, .ref t9]))] sz)) (va_Qi (fun (r : Int32) (u : Unit) => (r = 0 ∧ True)) (fun _ _ => True) (pn_N sz)) 0 0 (pn_N sz) := by
  refine Met.ofW (cc := cX4_isPlainAndLoaded) (maxL := 2) (ret := (some .boolean)) (by decide) rfl ?_
  intro p e s m args below meth c s₁ B hml hv
  obtain ⟨rfl, hsz, hP, hK⟩ := hv
  have hx := B.exec
  have hb := B.bytes
  have hr := B.returns
  have hts0 := atoms_spec (ws := pl_h yX4_isPlainAndLoaded cX4_isPlainAndLoaded 2 (some .boolean)) B.pre
  have hts := fun (w : Cond) (h : w ∈ pw_all) => hts0 w (List.mem_cons_of_mem _ h)
  have hown : s.vm.findClass RX4 = some m.cls := findClass_of_methodNamed B.named
  have hlocks := B.notSynchronized
  subst hsz
  have hA : ∀ q : Nat, s.heap.size ≤ q → pn_N s.heap.size q := fun q h => h
  have hS : va_S (pn_N s.heap.size) s.heap s.heap [] := va_S.rf
  have hl := lv_entry ([.ref h0, .int p0]) (n := 2) (Nat.le_of_ble_eq_true rfl)
  rw [lg_entry_eq]
  generalize (lg_sl ([.ref h0, .int p0]) ++ List.replicate (2 - (lg_sl ([.ref h0, .int p0])).length) Slot.unset).toArray = ls at hl ⊢
  have hl : lv_has ls 2 [(0, .ref h0), (1, .int p0)] := hl
  refine lv_aload_n hx hb dX4_isPlainAndLoaded_0 rfl (lv_at hl 0 rfl) ?_
  refine lv_iload_n hx hb dX4_isPlainAndLoaded_1 rfl (lv_at hl 1 rfl) ?_
  have hPc := hP.sub (ws' := [(h0, .inr (4, [.ref t, .ref fi, .ref st, .ref mc])), (t, .inr (3, [.int 0, .ref t1, .ref t2, .ref t3, .ref t4, .ref t5, .ref t6, .ref t7, .ref t8, .ref t9]))]) [0, 1] rfl
  refine pn_ci (va_runV (As := [.int p0]) (rest := []) ⟨hx, hb, hml, hown, hts⟩ (c_X4_isTold l D cI cZ cJ cG s.heap.size h0 t fi st mc t1 t2 t3 t4 t5 t6 t7 t8 t9 p0) (cwV 1 hts (pl_V (pl_m 184 (by decide +kernel)) (pl_m 185 (by decide +kernel)) (pl_m 186 (by decide +kernel)) (pl_m 2 (by decide +kernel)) (pl_m 187 (by decide +kernel))) rfl rfl rfl (by decide +kernel) ⟨(Nat.le_of_ble_eq_true rfl), (Nat.le_of_ble_eq_true rfl)⟩) ⟨pn_B_blind, va_recv hK hPc (ci := 4) (q0 := 0) rfl rfl, (pn_B_at hPc hK)⟩ rfl rfl hl.1 rfl (lv_room (Nat.le_of_ble_eq_true rfl)) dX4_isPlainAndLoaded_2 ⟨(Nat.le_of_ble_eq_true rfl), (Nat.le_of_ble_eq_true rfl)⟩) hS hA hP (fun r_1 H locs hw hP hS => ?_)
  have hP : va_P D vwCl [(h0, .inr (4, [.ref t, .ref fi, .ref st, .ref mc])), (t, .inr (3, [.int 0, .ref t1, .ref t2, .ref t3, .ref t4, .ref t5, .ref t6, .ref t7, .ref t8, .ref t9]))] H := hP
  obtain ⟨rfl, hw⟩ := hw
  try simp only [Int32.reduceToInt] at hw
  refine lv_if_eq (tgt := 37) hx hb dX4_isPlainAndLoaded_5 (by decide) (fun _ => ?_) (fun h9 => absurd (by decide) h9)
  refine lv_iconst (v := 0) hx hb dX4_isPlainAndLoaded_37 (by decide) ?_
  exact W.zret (v := 0) (ty := .boolean) hx hb hr (by decide) (fun tz_ ht hW => ⟨⟨0, (), rfl, ⟨rfl, (by first | exact trivial | omega | (simp only [Int32.reduceToInt] at *; omega) | decide)⟩, trivial⟩, hS.F ht⟩) hS.2.2 dX4_isPlainAndLoaded_38
set_option maxHeartbeats 4000000 in
set_option maxRecDepth 100000 in
theorem c_X4_isPlace (l : Launch) (D : va_G) (cI cZ cJ cG : ClassId) (sz : Nat) (h0 : Nat) (t : Nat) (fi : Nat) (st : Nat) (mc : Nat) (t1 : Nat) (t2 : Nat) (t3 : Nat) (t4 : Nat) (t5 : Nat) (t6 : Nat) (t7 : Nat) (t8 : Nat) (t9 : Nat) (p0 : Int32) (p1 : Int32) (p2 : Int32) : Met l yX4_isPlace (pl_h yX4_isPlace cX4_isPlace 4 (some .boolean)) ({ frames := 1, cells := 0, slots := 0, locals := 21 }) (va_Pc [.ref h0, .int p0, .int p1, .int p2] (pn_B D (pn_Y cI cZ cJ cG) [(h0, .inr (4, [.ref t, .ref fi, .ref st, .ref mc])), (t, .inr (3, [.int 0, .ref t1, .ref t2, .ref t3, .ref t4, .ref t5, .ref t6, .ref t7, .ref t8, .ref t9]))] sz)) (va_Qi (fun (r : Int32) (u : Unit) => (r = 0 ∧ True)) (fun _ _ => True) (pn_N sz)) 0 0 (pn_N sz) := by
  refine Met.ofW (cc := cX4_isPlace) (maxL := 4) (ret := (some .boolean)) (by decide) rfl ?_
  intro p e s m args below meth c s₁ B hml hv
  obtain ⟨rfl, hsz, hP, hK⟩ := hv
  have hx := B.exec
  have hb := B.bytes
  have hr := B.returns
  have hts0 := atoms_spec (ws := pl_h yX4_isPlace cX4_isPlace 4 (some .boolean)) B.pre
  have hts := fun (w : Cond) (h : w ∈ pw_all) => hts0 w (List.mem_cons_of_mem _ h)
  have hown : s.vm.findClass RX4 = some m.cls := findClass_of_methodNamed B.named
  have hlocks := B.notSynchronized
  subst hsz
  have hA : ∀ q : Nat, s.heap.size ≤ q → pn_N s.heap.size q := fun q h => h
  have hS : va_S (pn_N s.heap.size) s.heap s.heap [] := va_S.rf
  have hl := lv_entry ([.ref h0, .int p0, .int p1, .int p2]) (n := 4) (Nat.le_of_ble_eq_true rfl)
  rw [lg_entry_eq]
  generalize (lg_sl ([.ref h0, .int p0, .int p1, .int p2]) ++ List.replicate (4 - (lg_sl ([.ref h0, .int p0, .int p1, .int p2])).length) Slot.unset).toArray = ls at hl ⊢
  have hl : lv_has ls 4 [(0, .ref h0), (1, .int p0), (2, .int p1), (3, .int p2)] := hl
  refine lv_aload_n hx hb dX4_isPlace_0 rfl (lv_at hl 0 rfl) ?_
  refine lv_iload_n hx hb dX4_isPlace_1 rfl (lv_at hl 1 rfl) ?_
  have hPc := hP.sub (ws' := [(h0, .inr (4, [.ref t, .ref fi, .ref st, .ref mc])), (t, .inr (3, [.int 0, .ref t1, .ref t2, .ref t3, .ref t4, .ref t5, .ref t6, .ref t7, .ref t8, .ref t9]))]) [0, 1] rfl
  refine pn_ci (va_runV (As := [.int p0]) (rest := []) ⟨hx, hb, hml, hown, hts⟩ (c_X4_isTold l D cI cZ cJ cG s.heap.size h0 t fi st mc t1 t2 t3 t4 t5 t6 t7 t8 t9 p0) (cwV 1 hts (pl_V (pl_m 184 (by decide +kernel)) (pl_m 185 (by decide +kernel)) (pl_m 186 (by decide +kernel)) (pl_m 2 (by decide +kernel)) (pl_m 187 (by decide +kernel))) rfl rfl rfl (by decide +kernel) ⟨(Nat.le_of_ble_eq_true rfl), (Nat.le_of_ble_eq_true rfl)⟩) ⟨pn_B_blind, va_recv hK hPc (ci := 4) (q0 := 0) rfl rfl, (pn_B_at hPc hK)⟩ rfl rfl hl.1 rfl (lv_room (Nat.le_of_ble_eq_true rfl)) dX4_isPlace_2 ⟨(Nat.le_of_ble_eq_true rfl), (Nat.le_of_ble_eq_true rfl)⟩) hS hA hP (fun r_1 H locs hw hP hS => ?_)
  have hP : va_P D vwCl [(h0, .inr (4, [.ref t, .ref fi, .ref st, .ref mc])), (t, .inr (3, [.int 0, .ref t1, .ref t2, .ref t3, .ref t4, .ref t5, .ref t6, .ref t7, .ref t8, .ref t9]))] H := hP
  obtain ⟨rfl, hw⟩ := hw
  try simp only [Int32.reduceToInt] at hw
  refine lv_if_eq (tgt := 48) hx hb dX4_isPlace_5 (by decide) (fun _ => ?_) (fun h9 => absurd (by decide) h9)
  refine lv_iconst (v := 0) hx hb dX4_isPlace_48 (by decide) ?_
  exact W.zret (v := 0) (ty := .boolean) hx hb hr (by decide) (fun tz_ ht hW => ⟨⟨0, (), rfl, ⟨rfl, (by first | exact trivial | omega | (simp only [Int32.reduceToInt] at *; omega) | decide)⟩, trivial⟩, hS.F ht⟩) hS.2.2 dX4_isPlace_49
set_option maxHeartbeats 4000000 in
set_option maxRecDepth 100000 in
theorem c_X4_countClasses (l : Launch) (D : va_G) (cI cZ cJ cG : ClassId) (sz : Nat) (h0 : Nat) (t : Nat) (fi : Nat) (st : Nat) (mc : Nat) (t1 : Nat) (t2 : Nat) (t3 : Nat) (t4 : Nat) (t5 : Nat) (t6 : Nat) (t7 : Nat) (t8 : Nat) (t9 : Nat) (ra : Nat) (p0 : Int32) : Met l yX4_countClasses (pl_h yX4_countClasses cX4_countClasses 5 (some .int)) ({ frames := 0, cells := 0, slots := 0, locals := 0 }) (va_Pc [.ref h0, .ref ra, .int p0] (pn_B D (pn_Y cI cZ cJ cG) [(h0, .inr (4, [.ref t, .ref fi, .ref st, .ref mc])), (t, .inr (3, [.int 0, .ref t1, .ref t2, .ref t3, .ref t4, .ref t5, .ref t6, .ref t7, .ref t8, .ref t9]))] sz)) (va_Qi (fun (r : Int32) (u : Unit) => (r = 0 ∧ True)) (fun _ _ => True) (pn_N sz)) 0 0 (pn_N sz) := by
  refine Met.ofW (cc := cX4_countClasses) (maxL := 5) (ret := (some .int)) (by decide) rfl ?_
  intro p e s m args below meth c s₁ B hml hv
  obtain ⟨rfl, hsz, hP, hK⟩ := hv
  have hx := B.exec
  have hb := B.bytes
  have hr := B.returns
  have hts0 := atoms_spec (ws := pl_h yX4_countClasses cX4_countClasses 5 (some .int)) B.pre
  have hts := fun (w : Cond) (h : w ∈ pw_all) => hts0 w (List.mem_cons_of_mem _ h)
  have hown : s.vm.findClass RX4 = some m.cls := findClass_of_methodNamed B.named
  have hlocks := B.notSynchronized
  subst hsz
  have hA : ∀ q : Nat, s.heap.size ≤ q → pn_N s.heap.size q := fun q h => h
  have hS : va_S (pn_N s.heap.size) s.heap s.heap [] := va_S.rf
  have hl := lv_entry ([.ref h0, .ref ra, .int p0]) (n := 5) (Nat.le_of_ble_eq_true rfl)
  rw [lg_entry_eq]
  generalize (lg_sl ([.ref h0, .ref ra, .int p0]) ++ List.replicate (5 - (lg_sl ([.ref h0, .ref ra, .int p0])).length) Slot.unset).toArray = ls at hl ⊢
  have hl : lv_has ls 5 [(0, .ref h0), (1, .ref ra), (2, .int p0)] := hl
  refine lv_iconst (v := 0) hx hb dX4_countClasses_0 (by decide) ?_
  refine lv_istore_n (lv' := [(3, .int 0), (0, .ref h0), (1, .ref ra), (2, .int p0)]) hx hb dX4_countClasses_1 rfl hl (by decide) rfl (fun ls hl => ?_)
  refine lv_iconst (v := 0) hx hb dX4_countClasses_2 (by decide) ?_
  refine lv_istore (lv' := [(4, .int 0), (3, .int 0), (0, .ref h0), (1, .ref ra), (2, .int p0)]) hx hb dX4_countClasses_3 hl (by decide) rfl (fun ls hl => ?_)
  refine lv_iload hx hb dX4_countClasses_5 (lv_at hl 0 rfl) ?_
  refine lv_aload_n hx hb dX4_countClasses_7 rfl (lv_at hl 2 rfl) ?_
  refine va_get (D := D) (ci := 4) (v := .ref t) (C := RX4) (T := TX4) (N := 4) hx hb hts inlX4 hown hK hP 0 rfl rfl 0 (by decide) (hts (.fieldLink RX4 12 "VtableTown" "told" "LVtableTown$Told;") (pl_m 16 (by decide +kernel))) (fun _ h9 => h9) rfl dX4_countClasses_8 ?_
  refine va_get (D := D) (ci := 3) (v := .int 0) (C := RX3) (T := TX3) (N := 10) hx hb hts inlX3 hown hK hP 1 rfl rfl 0 (by decide) (hts (.fieldLink RX4 41 "VtableTown$Told" "count" "I") (pl_m 118 (by decide +kernel))) (fun _ h9 => h9) rfl dX4_countClasses_11 ?_
  refine lv_icmp_ge (tgt := 34) hx hb dX4_countClasses_14 (by decide) (fun _ => ?_) (fun h9 => absurd (by decide) h9)
  refine lv_iload_n hx hb dX4_countClasses_34 rfl (lv_at hl 1 rfl) ?_
  exact W.iret (v := 0) hx hb hr (fun tz_ ht hW => ⟨⟨0, (), rfl, ⟨rfl, (by first | exact trivial | omega | (simp only [Int32.reduceToInt] at *; omega) | decide)⟩, trivial⟩, hS.F ht⟩) hS.2.2 dX4_countClasses_35
set_option maxHeartbeats 4000000 in
set_option maxRecDepth 100000 in
theorem c_X4_countPlaces (l : Launch) (D : va_G) (cI cZ cJ cG : ClassId) (sz : Nat) (h0 : Nat) (t : Nat) (fi : Nat) (st : Nat) (mc : Nat) (t1 : Nat) (t2 : Nat) (t3 : Nat) (t4 : Nat) (t5 : Nat) (t6 : Nat) (t7 : Nat) (t8 : Nat) (t9 : Nat) : Met l yX4_countPlaces (pl_h yX4_countPlaces cX4_countPlaces 4 (some .int)) ({ frames := 0, cells := 0, slots := 0, locals := 0 }) (va_Pc [.ref h0] (pn_B D (pn_Y cI cZ cJ cG) [(h0, .inr (4, [.ref t, .ref fi, .ref st, .ref mc])), (t, .inr (3, [.int 0, .ref t1, .ref t2, .ref t3, .ref t4, .ref t5, .ref t6, .ref t7, .ref t8, .ref t9]))] sz)) (va_Qi (fun (r : Int32) (u : Unit) => (r = 0 ∧ True)) (fun _ _ => True) (pn_N sz)) 0 0 (pn_N sz) := by
  refine Met.ofW (cc := cX4_countPlaces) (maxL := 4) (ret := (some .int)) (by decide) rfl ?_
  intro p e s m args below meth c s₁ B hml hv
  obtain ⟨rfl, hsz, hP, hK⟩ := hv
  have hx := B.exec
  have hb := B.bytes
  have hr := B.returns
  have hts0 := atoms_spec (ws := pl_h yX4_countPlaces cX4_countPlaces 4 (some .int)) B.pre
  have hts := fun (w : Cond) (h : w ∈ pw_all) => hts0 w (List.mem_cons_of_mem _ h)
  have hown : s.vm.findClass RX4 = some m.cls := findClass_of_methodNamed B.named
  have hlocks := B.notSynchronized
  subst hsz
  have hA : ∀ q : Nat, s.heap.size ≤ q → pn_N s.heap.size q := fun q h => h
  have hS : va_S (pn_N s.heap.size) s.heap s.heap [] := va_S.rf
  have hl := lv_entry ([.ref h0]) (n := 4) (Nat.le_of_ble_eq_true rfl)
  rw [lg_entry_eq]
  generalize (lg_sl ([.ref h0]) ++ List.replicate (4 - (lg_sl ([.ref h0])).length) Slot.unset).toArray = ls at hl ⊢
  have hl : lv_has ls 4 [(0, .ref h0)] := hl
  refine lv_iconst (v := 0) hx hb dX4_countPlaces_0 (by decide) ?_
  refine lv_istore_n (lv' := [(1, .int 0), (0, .ref h0)]) hx hb dX4_countPlaces_1 rfl hl (by decide) rfl (fun ls hl => ?_)
  refine lv_iconst (v := 0) hx hb dX4_countPlaces_2 (by decide) ?_
  refine lv_istore_n (lv' := [(2, .int 0), (1, .int 0), (0, .ref h0)]) hx hb dX4_countPlaces_3 rfl hl (by decide) rfl (fun ls hl => ?_)
  refine lv_iload_n hx hb dX4_countPlaces_4 rfl (lv_at hl 0 rfl) ?_
  refine lv_aload_n hx hb dX4_countPlaces_5 rfl (lv_at hl 2 rfl) ?_
  refine va_get (D := D) (ci := 4) (v := .ref t) (C := RX4) (T := TX4) (N := 4) hx hb hts inlX4 hown hK hP 0 rfl rfl 0 (by decide) (hts (.fieldLink RX4 12 "VtableTown" "told" "LVtableTown$Told;") (pl_m 16 (by decide +kernel))) (fun _ h9 => h9) rfl dX4_countPlaces_6 ?_
  refine va_get (D := D) (ci := 3) (v := .int 0) (C := RX3) (T := TX3) (N := 10) hx hb hts inlX3 hown hK hP 1 rfl rfl 0 (by decide) (hts (.fieldLink RX4 41 "VtableTown$Told" "count" "I") (pl_m 118 (by decide +kernel))) (fun _ h9 => h9) rfl dX4_countPlaces_9 ?_
  refine lv_icmp_ge (tgt := 54) hx hb dX4_countPlaces_12 (by decide) (fun _ => ?_) (fun h9 => absurd (by decide) h9)
  refine lv_iload_n hx hb dX4_countPlaces_54 rfl (lv_at hl 1 rfl) ?_
  exact W.iret (v := 0) hx hb hr (fun tz_ ht hW => ⟨⟨0, (), rfl, ⟨rfl, (by first | exact trivial | omega | (simp only [Int32.reduceToInt] at *; omega) | decide)⟩, trivial⟩, hS.F ht⟩) hS.2.2 dX4_countPlaces_55
set_option maxHeartbeats 4000000 in
set_option maxRecDepth 100000 in
theorem c_X4_sumOfPlaces (l : Launch) (D : va_G) (cI cZ cJ cG : ClassId) (sz : Nat) (h0 : Nat) (t : Nat) (fi : Nat) (st : Nat) (mc : Nat) (t1 : Nat) (t2 : Nat) (t3 : Nat) (t4 : Nat) (t5 : Nat) (t6 : Nat) (t7 : Nat) (t8 : Nat) (t9 : Nat) (ra : Nat) : Met l yX4_sumOfPlaces (pl_h yX4_sumOfPlaces cX4_sumOfPlaces 4 (some .int)) ({ frames := 0, cells := 0, slots := 0, locals := 0 }) (va_Pc [.ref h0, .ref ra] (pn_B D (pn_Y cI cZ cJ cG) [(h0, .inr (4, [.ref t, .ref fi, .ref st, .ref mc])), (t, .inr (3, [.int 0, .ref t1, .ref t2, .ref t3, .ref t4, .ref t5, .ref t6, .ref t7, .ref t8, .ref t9]))] sz)) (va_Qi (fun (r : Int32) (u : Unit) => (r = 0 ∧ True)) (fun _ _ => True) (pn_N sz)) 0 0 (pn_N sz) := by
  refine Met.ofW (cc := cX4_sumOfPlaces) (maxL := 4) (ret := (some .int)) (by decide) rfl ?_
  intro p e s m args below meth c s₁ B hml hv
  obtain ⟨rfl, hsz, hP, hK⟩ := hv
  have hx := B.exec
  have hb := B.bytes
  have hr := B.returns
  have hts0 := atoms_spec (ws := pl_h yX4_sumOfPlaces cX4_sumOfPlaces 4 (some .int)) B.pre
  have hts := fun (w : Cond) (h : w ∈ pw_all) => hts0 w (List.mem_cons_of_mem _ h)
  have hown : s.vm.findClass RX4 = some m.cls := findClass_of_methodNamed B.named
  have hlocks := B.notSynchronized
  subst hsz
  have hA : ∀ q : Nat, s.heap.size ≤ q → pn_N s.heap.size q := fun q h => h
  have hS : va_S (pn_N s.heap.size) s.heap s.heap [] := va_S.rf
  have hl := lv_entry ([.ref h0, .ref ra]) (n := 4) (Nat.le_of_ble_eq_true rfl)
  rw [lg_entry_eq]
  generalize (lg_sl ([.ref h0, .ref ra]) ++ List.replicate (4 - (lg_sl ([.ref h0, .ref ra])).length) Slot.unset).toArray = ls at hl ⊢
  have hl : lv_has ls 4 [(0, .ref h0), (1, .ref ra)] := hl
  refine lv_iconst (v := 0) hx hb dX4_sumOfPlaces_0 (by decide) ?_
  refine lv_istore_n (lv' := [(2, .int 0), (0, .ref h0), (1, .ref ra)]) hx hb dX4_sumOfPlaces_1 rfl hl (by decide) rfl (fun ls hl => ?_)
  refine lv_iconst (v := 0) hx hb dX4_sumOfPlaces_2 (by decide) ?_
  refine lv_istore_n (lv' := [(3, .int 0), (2, .int 0), (0, .ref h0), (1, .ref ra)]) hx hb dX4_sumOfPlaces_3 rfl hl (by decide) rfl (fun ls hl => ?_)
  refine lv_iload_n hx hb dX4_sumOfPlaces_4 rfl (lv_at hl 0 rfl) ?_
  refine lv_aload_n hx hb dX4_sumOfPlaces_5 rfl (lv_at hl 2 rfl) ?_
  refine va_get (D := D) (ci := 4) (v := .ref t) (C := RX4) (T := TX4) (N := 4) hx hb hts inlX4 hown hK hP 0 rfl rfl 0 (by decide) (hts (.fieldLink RX4 12 "VtableTown" "told" "LVtableTown$Told;") (pl_m 16 (by decide +kernel))) (fun _ h9 => h9) rfl dX4_sumOfPlaces_6 ?_
  refine va_get (D := D) (ci := 3) (v := .int 0) (C := RX3) (T := TX3) (N := 10) hx hb hts inlX3 hown hK hP 1 rfl rfl 0 (by decide) (hts (.fieldLink RX4 41 "VtableTown$Told" "count" "I") (pl_m 118 (by decide +kernel))) (fun _ h9 => h9) rfl dX4_sumOfPlaces_9 ?_
  refine lv_bipush (v := 42) hx hb dX4_sumOfPlaces_12 (by decide) ?_
  refine lv_imul hx hb dX4_sumOfPlaces_14 ?_
  refine lv_topi (fun f_1 ef_1 => ?_)
  have ef_1 : f_1 = 0 := by rw [ef_1]; decide +kernel
  subst ef_1
  refine lv_icmp_ge (tgt := 30) hx hb dX4_sumOfPlaces_15 (by decide) (fun _ => ?_) (fun h9 => absurd (by decide) h9)
  refine lv_iload_n hx hb dX4_sumOfPlaces_30 rfl (lv_at hl 1 rfl) ?_
  exact W.iret (v := 0) hx hb hr (fun tz_ ht hW => ⟨⟨0, (), rfl, ⟨rfl, (by first | exact trivial | omega | (simp only [Int32.reduceToInt] at *; omega) | decide)⟩, trivial⟩, hS.F ht⟩) hS.2.2 dX4_sumOfPlaces_31
set_option maxHeartbeats 4000000 in
set_option maxRecDepth 100000 in
theorem c_X4_checkThereIsRoom (l : Launch) (D : va_G) (cI cZ cJ cG : ClassId) (sz : Nat) (h0 : Nat) (t : Nat) (fi : Nat) (st : Nat) (mc : Nat) (t1 : Nat) (t2 : Nat) (t3 : Nat) (t4 : Nat) (t5 : Nat) (t6 : Nat) (t7 : Nat) (t8 : Nat) (t9 : Nat) : Met l yX4_checkThereIsRoom (pl_h yX4_checkThereIsRoom cX4_checkThereIsRoom 1 none) ({ frames := 0, cells := 0, slots := 0, locals := 0 }) (va_Pc [.ref h0] (pn_B D (pn_Y cI cZ cJ cG) [(h0, .inr (4, [.ref t, .ref fi, .ref st, .ref mc])), (t, .inr (3, [.int 0, .ref t1, .ref t2, .ref t3, .ref t4, .ref t5, .ref t6, .ref t7, .ref t8, .ref t9]))] sz)) (va_Qv (fun (u : Unit) => True) (fun _ _ => True) (pn_N sz)) 0 0 (pn_N sz) := by
  refine Met.ofW (cc := cX4_checkThereIsRoom) (maxL := 1) (ret := none) (by decide) rfl ?_
  intro p e s m args below meth c s₁ B hml hv
  obtain ⟨rfl, hsz, hP, hK⟩ := hv
  have hx := B.exec
  have hb := B.bytes
  have hr := B.returns
  have hts0 := atoms_spec (ws := pl_h yX4_checkThereIsRoom cX4_checkThereIsRoom 1 none) B.pre
  have hts := fun (w : Cond) (h : w ∈ pw_all) => hts0 w (List.mem_cons_of_mem _ h)
  have hown : s.vm.findClass RX4 = some m.cls := findClass_of_methodNamed B.named
  have hlocks := B.notSynchronized
  subst hsz
  have hA : ∀ q : Nat, s.heap.size ≤ q → pn_N s.heap.size q := fun q h => h
  have hS : va_S (pn_N s.heap.size) s.heap s.heap [] := va_S.rf
  have hl := lv_entry ([.ref h0]) (n := 1) (Nat.le_of_ble_eq_true rfl)
  rw [lg_entry_eq]
  generalize (lg_sl ([.ref h0]) ++ List.replicate (1 - (lg_sl ([.ref h0])).length) Slot.unset).toArray = ls at hl ⊢
  have hl : lv_has ls 1 [(0, .ref h0)] := hl
  refine lv_aload_n hx hb dX4_checkThereIsRoom_0 rfl (lv_at hl 0 rfl) ?_
  refine va_get (D := D) (ci := 4) (v := .ref t) (C := RX4) (T := TX4) (N := 4) hx hb hts inlX4 hown hK hP 0 rfl rfl 0 (by decide) (hts (.fieldLink RX4 12 "VtableTown" "told" "LVtableTown$Told;") (pl_m 16 (by decide +kernel))) (fun _ h9 => h9) rfl dX4_checkThereIsRoom_1 ?_
  refine va_get (D := D) (ci := 3) (v := .int 0) (C := RX3) (T := TX3) (N := 10) hx hb hts inlX3 hown hK hP 1 rfl rfl 0 (by decide) (hts (.fieldLink RX4 41 "VtableTown$Told" "count" "I") (pl_m 118 (by decide +kernel))) (fun _ h9 => h9) rfl dX4_checkThereIsRoom_4 ?_
  refine lv_bipush (v := 12) hx hb dX4_checkThereIsRoom_7 (by decide) ?_
  refine lv_icmp_lt (tgt := 23) hx hb dX4_checkThereIsRoom_9 (by decide) (fun _ => ?_) (fun h9 => absurd (by decide) h9)
  exact W.vret hx hb hr (fun tz_ ht hW => ⟨⟨(), rfl, (by first | exact trivial | omega | (simp only [Int32.reduceToInt] at *; omega) | decide), trivial⟩, hS.F ht⟩) hS.2.2 dX4_checkThereIsRoom_23
set_option maxHeartbeats 4000000 in
set_option maxRecDepth 100000 in
theorem c_X4_checkTold (l : Launch) (D : va_G) (cI cZ cJ cG : ClassId) (sz : Nat) (h0 : Nat) (t : Nat) (fi : Nat) (st : Nat) (mc : Nat) (t1 : Nat) (t2 : Nat) (t3 : Nat) (t4 : Nat) (t5 : Nat) (t6 : Nat) (t7 : Nat) (t8 : Nat) (t9 : Nat) (p0 : Int32) (hst : l.stackTraces = false) : vx_Met l yX4_checkTold (pl_h yX4_checkTold cX4_checkTold 2 none) ({ frames := 6, cells := 1, slots := 6, locals := 82 }) (va_Pc [.ref h0, .int p0] (pn_X D (pn_Y cI cZ cJ cG) [(h0, .inr (4, [.ref t, .ref fi, .ref st, .ref mc])), (t, .inr (3, [.int 0, .ref t1, .ref t2, .ref t3, .ref t4, .ref t5, .ref t6, .ref t7, .ref t8, .ref t9]))] (pn_N sz) sz)) (va_Qv (fun (u : Unit) => False) (fun _ _ => True) (pn_N sz)) (vx_X (fun _ : Unit => True) (fun E _ _ => (E = "java/lang/IndexOutOfBoundsException" ∧ True)) (pn_N sz)) 1 6 (pn_N sz) := by
  refine vx_ofW (cc := cX4_checkTold) (maxL := 2) (ret := none) (by decide) rfl ?_
  intro p e s m args below meth c s₁ B hml hout hv
  obtain ⟨rfl, ⟨hsz, hP, hK, hD0⟩, hZ, hT⟩ := hv
  have hx := B.exec
  have hb := B.bytes
  have hr := B.returns
  have hts0 := atoms_spec (ws := pl_h yX4_checkTold cX4_checkTold 2 none) B.pre
  have hts := fun (w : Cond) (h : w ∈ pw_all) => hts0 w (List.mem_cons_of_mem _ h)
  have hown : s.vm.findClass RX4 = some m.cls := findClass_of_methodNamed B.named
  have hlocks := B.notSynchronized
  subst hsz
  have hA : ∀ q : Nat, s.heap.size ≤ q → pn_N s.heap.size q := fun q h => h
  have hS : va_S (pn_N s.heap.size) s.heap s.heap [] := va_S.rf
  have hD := hD0
  have hl := lv_entry ([.ref h0, .int p0]) (n := 2) (Nat.le_of_ble_eq_true rfl)
  rw [lg_entry_eq]
  generalize (lg_sl ([.ref h0, .int p0]) ++ List.replicate (2 - (lg_sl ([.ref h0, .int p0])).length) Slot.unset).toArray = ls at hl ⊢
  have hl : lv_has ls 2 [(0, .ref h0), (1, .int p0)] := hl
  refine lv_aload_n hx hb dX4_checkTold_0 rfl (lv_at hl 0 rfl) ?_
  refine lv_iload_n hx hb dX4_checkTold_1 rfl (lv_at hl 1 rfl) ?_
  have hPc := hP.sub (ws' := [(h0, .inr (4, [.ref t, .ref fi, .ref st, .ref mc])), (t, .inr (3, [.int 0, .ref t1, .ref t2, .ref t3, .ref t4, .ref t5, .ref t6, .ref t7, .ref t8, .ref t9]))]) [0, 1] rfl
  refine pn_ci (va_runV (As := [.int p0]) (rest := []) ⟨hx, hb, hml, hown, hts⟩ (c_X4_isTold l D cI cZ cJ cG s.heap.size h0 t fi st mc t1 t2 t3 t4 t5 t6 t7 t8 t9 p0) (cwV 1 hts (pl_V (pl_m 184 (by decide +kernel)) (pl_m 185 (by decide +kernel)) (pl_m 186 (by decide +kernel)) (pl_m 2 (by decide +kernel)) (pl_m 187 (by decide +kernel))) rfl rfl rfl (by decide +kernel) ⟨(Nat.le_of_ble_eq_true rfl), (Nat.le_of_ble_eq_true rfl)⟩) ⟨pn_B_blind, va_recv hK hPc (ci := 4) (q0 := 0) rfl rfl, (pn_B_at hPc hK)⟩ rfl rfl hl.1 rfl (lv_room (Nat.le_of_ble_eq_true rfl)) dX4_checkTold_2 ⟨(Nat.le_of_ble_eq_true rfl), (Nat.le_of_ble_eq_true rfl)⟩) hS hA hP (fun r_1 H locs hw hP hS => ?_)
  have hP : va_P D vwCl [(h0, .inr (4, [.ref t, .ref fi, .ref st, .ref mc])), (t, .inr (3, [.int 0, .ref t1, .ref t2, .ref t3, .ref t4, .ref t5, .ref t6, .ref t7, .ref t8, .ref t9]))] H := hP
  obtain ⟨rfl, hw⟩ := hw
  try simp only [Int32.reduceToInt] at hw
  refine lv_if_ne (tgt := 19) hx hb dX4_checkTold_5 (by decide) (fun h9 => absurd (by decide) h9) (fun _ => ?_)
  obtain ⟨sa_2, hstr_2⟩ := hT.2.1 (279, "no such class") (by decide +kernel)
  exact vx_throwSW (own := RX4) (cls := "java/lang/IndexOutOfBoundsException") (text := "no such class") (names := ["java/lang/RuntimeException", "java/lang/Exception"]) (ik := 120) (is := 279) (ic := 124) hx hb hst hown pn_fit.2.2.1 pn_fit.2.2.2 (hts (.classLink RX4 120 "java/lang/IndexOutOfBoundsException") (pl_m 178 (by decide +kernel))) (hts (.initialized "java/lang/IndexOutOfBoundsException") (pl_m 179 (by decide +kernel))) hstr_2 (pn_hat hts pl_x2 pn_hb3 hT) pn_hg3 hZ.1 hZ.2 hS (hl.1.trans hml.symm) dX4_checkTold_8 dX4_checkTold_11 dX4_checkTold_12 dX4_checkTold_15 dX4_checkTold_18 (fun x h9 => (hout x h9).elim) (Nat.le_of_ble_eq_true rfl) (Nat.le_of_ble_eq_true rfl) (Nat.le_of_ble_eq_true rfl) (Nat.le_of_ble_eq_true rfl) hlocks (fun t _ h1 h2 => ⟨(), trivial, ⟨rfl, (by first | exact trivial | omega | (simp only [Int32.reduceToInt] at *; omega) | decide)⟩, pn_xF hS h1 h2⟩) hS.2.2 (Nat.le_of_ble_eq_true rfl) (Nat.le_of_ble_eq_true rfl)
set_option maxHeartbeats 4000000 in
set_option maxRecDepth 100000 in
theorem c_X4_checkToldAndName (l : Launch) (D : va_G) (cI cZ cJ cG : ClassId) (sz : Nat) (h0 : Nat) (t : Nat) (fi : Nat) (st : Nat) (mc : Nat) (t1 : Nat) (t2 : Nat) (t3 : Nat) (t4 : Nat) (t5 : Nat) (t6 : Nat) (t7 : Nat) (t8 : Nat) (t9 : Nat) (p0 : Int32) (p1 : Int32) (hst : l.stackTraces = false) : vx_Met l yX4_checkToldAndName (pl_h yX4_checkToldAndName cX4_checkToldAndName 3 none) ({ frames := 7, cells := 1, slots := 6, locals := 103 }) (va_Pc [.ref h0, .int p0, .int p1] (pn_X D (pn_Y cI cZ cJ cG) [(h0, .inr (4, [.ref t, .ref fi, .ref st, .ref mc])), (t, .inr (3, [.int 0, .ref t1, .ref t2, .ref t3, .ref t4, .ref t5, .ref t6, .ref t7, .ref t8, .ref t9]))] (pn_N sz) sz)) (va_Qv (fun (u : Unit) => False) (fun _ _ => True) (pn_N sz)) (vx_X (fun _ : Unit => True) (fun E _ _ => (E = "java/lang/IndexOutOfBoundsException" ∧ True)) (pn_N sz)) 1 6 (pn_N sz) := by
  refine vx_ofW (cc := cX4_checkToldAndName) (maxL := 3) (ret := none) (by decide) rfl ?_
  intro p e s m args below meth c s₁ B hml hout hv
  obtain ⟨rfl, ⟨hsz, hP, hK, hD0⟩, hZ, hT⟩ := hv
  have hx := B.exec
  have hb := B.bytes
  have hr := B.returns
  have hts0 := atoms_spec (ws := pl_h yX4_checkToldAndName cX4_checkToldAndName 3 none) B.pre
  have hts := fun (w : Cond) (h : w ∈ pw_all) => hts0 w (List.mem_cons_of_mem _ h)
  have hown : s.vm.findClass RX4 = some m.cls := findClass_of_methodNamed B.named
  have hlocks := B.notSynchronized
  subst hsz
  have hA : ∀ q : Nat, s.heap.size ≤ q → pn_N s.heap.size q := fun q h => h
  have hS : va_S (pn_N s.heap.size) s.heap s.heap [] := va_S.rf
  have hD := hD0
  have hl := lv_entry ([.ref h0, .int p0, .int p1]) (n := 3) (Nat.le_of_ble_eq_true rfl)
  rw [lg_entry_eq]
  generalize (lg_sl ([.ref h0, .int p0, .int p1]) ++ List.replicate (3 - (lg_sl ([.ref h0, .int p0, .int p1])).length) Slot.unset).toArray = ls at hl ⊢
  have hl : lv_has ls 3 [(0, .ref h0), (1, .int p0), (2, .int p1)] := hl
  refine lv_aload_n hx hb dX4_checkToldAndName_0 rfl (lv_at hl 0 rfl) ?_
  refine lv_iload_n hx hb dX4_checkToldAndName_1 rfl (lv_at hl 1 rfl) ?_
  have hPc := hP.sub (ws' := [(h0, .inr (4, [.ref t, .ref fi, .ref st, .ref mc])), (t, .inr (3, [.int 0, .ref t1, .ref t2, .ref t3, .ref t4, .ref t5, .ref t6, .ref t7, .ref t8, .ref t9]))]) [0, 1] rfl
  have hDc := hD.sub (ws' := [(h0, .inr (4, [.ref t, .ref fi, .ref st, .ref mc])), (t, .inr (3, [.int 0, .ref t1, .ref t2, .ref t3, .ref t4, .ref t5, .ref t6, .ref t7, .ref t8, .ref t9]))]) [0, 1] (by decide) rfl
  refine pn_xv (vx_runV (As := [.int p0]) (rest := []) ⟨hx, hb, hml, hown, hts⟩ (c_X4_checkTold l D cI cZ cJ cG s.heap.size h0 t fi st mc t1 t2 t3 t4 t5 t6 t7 t8 t9 p0 hst) (cwV 1 hts (pl_V (pl_m 180 (by decide +kernel)) (pl_m 181 (by decide +kernel)) (pl_m 182 (by decide +kernel)) (pl_m 2 (by decide +kernel)) (pl_m 183 (by decide +kernel))) rfl rfl rfl (by decide +kernel) ⟨(Nat.le_of_ble_eq_true rfl), (Nat.le_of_ble_eq_true rfl)⟩) ⟨pn_X_blind, va_recv hK hPc (ci := 4) (q0 := 0) rfl rfl, (pn_X_at hPc hDc hK hS hZ hT (fun q h => pn_NA hS hA q h))⟩ rfl rfl hl.1 rfl (lv_room (Nat.le_of_ble_eq_true rfl)) dX4_checkToldAndName_2 ⟨(Nat.le_of_ble_eq_true rfl), (Nat.le_of_ble_eq_true rfl)⟩) hS hA hP (fun E ce q9 H locs hE hP hS h1 h2 h3 => ?_) (fun H locs hw hP hS => ?_)
  · refine pn_out (XE' := fun E => (E = "java/lang/IndexOutOfBoundsException" ∧ True)) hout hlocks hS ?_ h1 h2 h3 (Nat.le_of_ble_eq_true rfl) (Nat.le_of_ble_eq_true rfl)
    rcases hE with ⟨rfl, hE⟩
    · exact ⟨rfl, (by first | exact trivial | omega | (simp only [Int32.reduceToInt] at *; omega) | decide)⟩
  · exact hw.elim
set_option maxHeartbeats 4000000 in
set_option maxRecDepth 100000 in
theorem c_X4_checkFinder (l : Launch) (D : va_G) (cI cZ cJ cG : ClassId) (sz : Nat) (h0 : Nat) (t : Nat) (fi : Nat) (st : Nat) (mc : Nat) (t1 : Nat) (t2 : Nat) (t3 : Nat) (t4 : Nat) (t5 : Nat) (t6 : Nat) (t7 : Nat) (t8 : Nat) (t9 : Nat) (p0 : Int32) (p1 : Int32) (hst : l.stackTraces = false) : vx_Met l yX4_checkFinder (pl_h yX4_checkFinder cX4_checkFinder 3 none) ({ frames := 6, cells := 1, slots := 6, locals := 82 }) (va_Pc [.ref h0, .int p0, .int p1] (pn_X D (pn_Y cI cZ cJ cG) [(h0, .inr (4, [.ref t, .ref fi, .ref st, .ref mc])), (t, .inr (3, [.int 0, .ref t1, .ref t2, .ref t3, .ref t4, .ref t5, .ref t6, .ref t7, .ref t8, .ref t9]))] (pn_N sz) sz)) (va_Qv (fun (u : Unit) => False) (fun _ _ => True) (pn_N sz)) (vx_X (fun _ : Unit => True) (fun E _ _ => (E = "java/lang/IndexOutOfBoundsException" ∧ True)) (pn_N sz)) 1 6 (pn_N sz) := by
  refine vx_ofW (cc := cX4_checkFinder) (maxL := 3) (ret := none) (by decide) rfl ?_
  intro p e s m args below meth c s₁ B hml hout hv
  obtain ⟨rfl, ⟨hsz, hP, hK, hD0⟩, hZ, hT⟩ := hv
  have hx := B.exec
  have hb := B.bytes
  have hr := B.returns
  have hts0 := atoms_spec (ws := pl_h yX4_checkFinder cX4_checkFinder 3 none) B.pre
  have hts := fun (w : Cond) (h : w ∈ pw_all) => hts0 w (List.mem_cons_of_mem _ h)
  have hown : s.vm.findClass RX4 = some m.cls := findClass_of_methodNamed B.named
  have hlocks := B.notSynchronized
  subst hsz
  have hA : ∀ q : Nat, s.heap.size ≤ q → pn_N s.heap.size q := fun q h => h
  have hS : va_S (pn_N s.heap.size) s.heap s.heap [] := va_S.rf
  have hD := hD0
  have hl := lv_entry ([.ref h0, .int p0, .int p1]) (n := 3) (Nat.le_of_ble_eq_true rfl)
  rw [lg_entry_eq]
  generalize (lg_sl ([.ref h0, .int p0, .int p1]) ++ List.replicate (3 - (lg_sl ([.ref h0, .int p0, .int p1])).length) Slot.unset).toArray = ls at hl ⊢
  have hl : lv_has ls 3 [(0, .ref h0), (1, .int p0), (2, .int p1)] := hl
  refine lv_aload_n hx hb dX4_checkFinder_0 rfl (lv_at hl 0 rfl) ?_
  refine lv_iload_n hx hb dX4_checkFinder_1 rfl (lv_at hl 1 rfl) ?_
  have hPc := hP.sub (ws' := [(h0, .inr (4, [.ref t, .ref fi, .ref st, .ref mc])), (t, .inr (3, [.int 0, .ref t1, .ref t2, .ref t3, .ref t4, .ref t5, .ref t6, .ref t7, .ref t8, .ref t9]))]) [0, 1] rfl
  refine pn_ci (va_runV (As := [.int p0]) (rest := []) ⟨hx, hb, hml, hown, hts⟩ (c_X4_isPlainAndLoaded l D cI cZ cJ cG s.heap.size h0 t fi st mc t1 t2 t3 t4 t5 t6 t7 t8 t9 p0) (cwV 1 hts (pl_V (pl_m 660 (by decide +kernel)) (pl_m 661 (by decide +kernel)) (pl_m 662 (by decide +kernel)) (pl_m 2 (by decide +kernel)) (pl_m 663 (by decide +kernel))) rfl rfl rfl (by decide +kernel) ⟨(Nat.le_of_ble_eq_true rfl), (Nat.le_of_ble_eq_true rfl)⟩) ⟨pn_B_blind, va_recv hK hPc (ci := 4) (q0 := 0) rfl rfl, (pn_B_at hPc hK)⟩ rfl rfl hl.1 rfl (lv_room (Nat.le_of_ble_eq_true rfl)) dX4_checkFinder_2 ⟨(Nat.le_of_ble_eq_true rfl), (Nat.le_of_ble_eq_true rfl)⟩) hS hA hP (fun r_1 H locs hw hP hS => ?_)
  have hP : va_P D vwCl [(h0, .inr (4, [.ref t, .ref fi, .ref st, .ref mc])), (t, .inr (3, [.int 0, .ref t1, .ref t2, .ref t3, .ref t4, .ref t5, .ref t6, .ref t7, .ref t8, .ref t9]))] H := hP
  obtain ⟨rfl, hw⟩ := hw
  try simp only [Int32.reduceToInt] at hw
  refine lv_if_eq (tgt := 15) hx hb dX4_checkFinder_5 (by decide) (fun _ => ?_) (fun h9 => absurd (by decide) h9)
  obtain ⟨sa_2, hstr_2⟩ := hT.2.1 (300, "no plain and loaded class, or no such name") (by decide +kernel)
  exact vx_throwSW (own := RX4) (cls := "java/lang/IndexOutOfBoundsException") (text := "no plain and loaded class, or no such name") (names := ["java/lang/RuntimeException", "java/lang/Exception"]) (ik := 120) (is := 300) (ic := 124) hx hb hst hown pn_fit.2.2.1 pn_fit.2.2.2 (hts (.classLink RX4 120 "java/lang/IndexOutOfBoundsException") (pl_m 178 (by decide +kernel))) (hts (.initialized "java/lang/IndexOutOfBoundsException") (pl_m 179 (by decide +kernel))) hstr_2 (pn_hat hts pl_x2 pn_hb3 hT) pn_hg3 hZ.1 hZ.2 hS (hl.1.trans hml.symm) dX4_checkFinder_15 dX4_checkFinder_18 dX4_checkFinder_19 dX4_checkFinder_22 dX4_checkFinder_25 (fun x h9 => (hout x h9).elim) (Nat.le_of_ble_eq_true rfl) (Nat.le_of_ble_eq_true rfl) (Nat.le_of_ble_eq_true rfl) (Nat.le_of_ble_eq_true rfl) hlocks (fun t _ h1 h2 => ⟨(), trivial, ⟨rfl, (by first | exact trivial | omega | (simp only [Int32.reduceToInt] at *; omega) | decide)⟩, pn_xF hS h1 h2⟩) hS.2.2 (Nat.le_of_ble_eq_true rfl) (Nat.le_of_ble_eq_true rfl)
set_option maxHeartbeats 4000000 in
set_option maxRecDepth 100000 in
theorem c_X4_checkNumber (l : Launch) (D : va_G) (cI cZ cJ cG : ClassId) (sz : Nat) (p0 : Int32) (hst : l.stackTraces = false) : vx_Met l yX4_checkNumber (pl_h yX4_checkNumber cX4_checkNumber 1 none) ({ frames := 6, cells := 1, slots := 6, locals := 82 }) (va_Pc [.int p0] (pn_X D (pn_Y cI cZ cJ cG) [] (pn_N sz) sz)) (va_Qv (fun (u : Unit) => 0 ≤ p0.toInt ∧ p0.toInt ≤ 11) (fun _ _ => True) (pn_N sz)) (vx_X (fun _ : Unit => True) (fun E _ _ => (E = "java/lang/IndexOutOfBoundsException" ∧ (p0.toInt < 0 ∨ 11 < p0.toInt))) (pn_N sz)) 1 6 (pn_N sz) := by
  refine vx_ofW (cc := cX4_checkNumber) (maxL := 1) (ret := none) (by decide) rfl ?_
  intro p e s m args below meth c s₁ B hml hout hv
  obtain ⟨rfl, ⟨hsz, hP, hK, hD0⟩, hZ, hT⟩ := hv
  have hx := B.exec
  have hb := B.bytes
  have hr := B.returns
  have hts0 := atoms_spec (ws := pl_h yX4_checkNumber cX4_checkNumber 1 none) B.pre
  have hts := fun (w : Cond) (h : w ∈ pw_all) => hts0 w (List.mem_cons_of_mem _ h)
  have hown : s.vm.findClass RX4 = some m.cls := findClass_of_methodNamed B.named
  have hlocks := B.notSynchronized
  subst hsz
  have hA : ∀ q : Nat, s.heap.size ≤ q → pn_N s.heap.size q := fun q h => h
  have hS : va_S (pn_N s.heap.size) s.heap s.heap [] := va_S.rf
  have hD := hD0
  have hl := lv_entry ([.int p0]) (n := 1) (Nat.le_of_ble_eq_true rfl)
  rw [lg_entry_eq]
  generalize (lg_sl ([.int p0]) ++ List.replicate (1 - (lg_sl ([.int p0])).length) Slot.unset).toArray = ls at hl ⊢
  have hl : lv_has ls 1 [(0, .int p0)] := hl
  refine lv_iload_n hx hb dX4_checkNumber_0 rfl (lv_at hl 0 rfl) ?_
  have hPc := hP.sub (ws' := []) [] rfl
  refine pn_ci (va_runS (As := [.int p0]) (rest := []) ⟨hx, hb, hml, hown, hts⟩ (c_X4_isNumber l D cI cZ cJ cG s.heap.size p0) (va_cwS 1 hts (pl_S (pl_m 239 (by decide +kernel)) (pl_m 240 (by decide +kernel)) (pl_m 2 (by decide +kernel)) (pl_m 241 (by decide +kernel))) rfl rfl rfl (by decide +kernel) ⟨(Nat.le_of_ble_eq_true rfl), (Nat.le_of_ble_eq_true rfl)⟩) ⟨pn_B_blind, (pn_B_at hPc hK)⟩ rfl rfl hl.1 rfl (lv_room (Nat.le_of_ble_eq_true rfl)) dX4_checkNumber_1 ⟨(Nat.le_of_ble_eq_true rfl), (Nat.le_of_ble_eq_true rfl)⟩) hS hA hP (fun r_1 H locs hw hP hS => ?_)
  have hP : va_P D vwCl [] H := hP
  rcases hw with ⟨rfl, hw⟩ | ⟨rfl, hw⟩
  · try simp only [Int32.reduceToInt] at hw
    have hw_2 := hw
    refine lv_if_ne (tgt := 18) hx hb dX4_checkNumber_4 (by decide) (fun _ => ?_) (fun h9 => absurd h9 (by decide))
    refine vx_ret ?_
    refine W.widen (k := 1) (n := 6) (Nat.le_of_ble_eq_true rfl) (Nat.le_of_ble_eq_true rfl) ?_
    exact W.vret hx hb hr (fun tz_ ht hW => ⟨⟨(), rfl, (by first | exact trivial | omega | (simp only [Int32.reduceToInt] at *; omega) | decide), trivial⟩, hS.F ht⟩) hS.2.2 dX4_checkNumber_18
  · try simp only [Int32.reduceToInt] at hw
    have hw_3 := hw
    refine lv_if_ne (tgt := 18) hx hb dX4_checkNumber_4 (by decide) (fun h9 => absurd (by decide) h9) (fun _ => ?_)
    obtain ⟨sa_4, hstr_4⟩ := hT.2.1 (293, "a class is 0 to 11") (by decide +kernel)
    exact vx_throwSW (own := RX4) (cls := "java/lang/IndexOutOfBoundsException") (text := "a class is 0 to 11") (names := ["java/lang/RuntimeException", "java/lang/Exception"]) (ik := 120) (is := 293) (ic := 124) hx hb hst hown pn_fit.2.2.1 pn_fit.2.2.2 (hts (.classLink RX4 120 "java/lang/IndexOutOfBoundsException") (pl_m 178 (by decide +kernel))) (hts (.initialized "java/lang/IndexOutOfBoundsException") (pl_m 179 (by decide +kernel))) hstr_4 (pn_hat hts pl_x2 pn_hb3 hT) pn_hg3 hZ.1 hZ.2 hS (hl.1.trans hml.symm) dX4_checkNumber_7 dX4_checkNumber_10 dX4_checkNumber_11 dX4_checkNumber_14 dX4_checkNumber_17 (fun x h9 => (hout x h9).elim) (Nat.le_of_ble_eq_true rfl) (Nat.le_of_ble_eq_true rfl) (Nat.le_of_ble_eq_true rfl) (Nat.le_of_ble_eq_true rfl) hlocks (fun t _ h1 h2 => ⟨(), trivial, ⟨rfl, (by first | exact trivial | omega | (simp only [Int32.reduceToInt] at *; omega) | decide)⟩, pn_xF hS h1 h2⟩) hS.2.2 (Nat.le_of_ble_eq_true rfl) (Nat.le_of_ble_eq_true rfl)
set_option maxHeartbeats 4000000 in
set_option maxRecDepth 100000 in
theorem c_X4_checkNumberAndName (l : Launch) (D : va_G) (cI cZ cJ cG : ClassId) (sz : Nat) (p0 : Int32) (p1 : Int32) (hst : l.stackTraces = false) : vx_Met l yX4_checkNumberAndName (pl_h yX4_checkNumberAndName cX4_checkNumberAndName 2 none) ({ frames := 7, cells := 2, slots := 12, locals := 102 }) (va_Pc [.int p0, .int p1] (pn_X D (pn_Y cI cZ cJ cG) [] (pn_N sz) sz)) (va_Qv (fun (u : Unit) => 0 ≤ p0.toInt ∧ p0.toInt ≤ 11 ∧ 1 ≤ p1.toInt ∧ p1.toInt ≤ 5) (fun _ _ => True) (pn_N sz)) (vx_X (fun _ : Unit => True) (fun E _ _ => (E = "java/lang/IndexOutOfBoundsException" ∧ (p0.toInt < 0 ∨ 11 < p0.toInt ∨ p1.toInt < 1 ∨ 5 < p1.toInt))) (pn_N sz)) 2 12 (pn_N sz) := by
  refine vx_ofW (cc := cX4_checkNumberAndName) (maxL := 2) (ret := none) (by decide) rfl ?_
  intro p e s m args below meth c s₁ B hml hout hv
  obtain ⟨rfl, ⟨hsz, hP, hK, hD0⟩, hZ, hT⟩ := hv
  have hx := B.exec
  have hb := B.bytes
  have hr := B.returns
  have hts0 := atoms_spec (ws := pl_h yX4_checkNumberAndName cX4_checkNumberAndName 2 none) B.pre
  have hts := fun (w : Cond) (h : w ∈ pw_all) => hts0 w (List.mem_cons_of_mem _ h)
  have hown : s.vm.findClass RX4 = some m.cls := findClass_of_methodNamed B.named
  have hlocks := B.notSynchronized
  subst hsz
  have hA : ∀ q : Nat, s.heap.size ≤ q → pn_N s.heap.size q := fun q h => h
  have hS : va_S (pn_N s.heap.size) s.heap s.heap [] := va_S.rf
  have hD := hD0
  have hl := lv_entry ([.int p0, .int p1]) (n := 2) (Nat.le_of_ble_eq_true rfl)
  rw [lg_entry_eq]
  generalize (lg_sl ([.int p0, .int p1]) ++ List.replicate (2 - (lg_sl ([.int p0, .int p1])).length) Slot.unset).toArray = ls at hl ⊢
  have hl : lv_has ls 2 [(0, .int p0), (1, .int p1)] := hl
  refine lv_iload_n hx hb dX4_checkNumberAndName_0 rfl (lv_at hl 0 rfl) ?_
  have hPc := hP.sub (ws' := []) [] rfl
  have hDc := hD.sub (ws' := []) [] (by decide) rfl
  refine pn_xv (vx_runS (As := [.int p0]) (rest := []) ⟨hx, hb, hml, hown, hts⟩ (c_X4_checkNumber l D cI cZ cJ cG s.heap.size p0 hst) (va_cwS 1 hts (pl_S (pl_m 313 (by decide +kernel)) (pl_m 314 (by decide +kernel)) (pl_m 2 (by decide +kernel)) (pl_m 315 (by decide +kernel))) rfl rfl rfl (by decide +kernel) ⟨(Nat.le_of_ble_eq_true rfl), (Nat.le_of_ble_eq_true rfl)⟩) ⟨pn_X_blind, (pn_X_at hPc hDc hK hS hZ hT (fun q h => pn_NA hS hA q h))⟩ rfl rfl hl.1 rfl (lv_room (Nat.le_of_ble_eq_true rfl)) dX4_checkNumberAndName_1 ⟨(Nat.le_of_ble_eq_true rfl), (Nat.le_of_ble_eq_true rfl)⟩) hS hA hP (fun E ce q9 H locs hE hP hS h1 h2 h3 => ?_) (fun H locs hw hP hS => ?_)
  · refine pn_out (XE' := fun E => (E = "java/lang/IndexOutOfBoundsException" ∧ (p0.toInt < 0 ∨ 11 < p0.toInt ∨ p1.toInt < 1 ∨ 5 < p1.toInt))) hout hlocks hS ?_ h1 h2 h3 (Nat.le_of_ble_eq_true rfl) (Nat.le_of_ble_eq_true rfl)
    rcases hE with ⟨rfl, hE⟩
    · exact ⟨rfl, (by first | exact trivial | omega | (simp only [Int32.reduceToInt] at *; omega) | decide)⟩
  · have hP : va_P D vwCl [] H := hP
    refine W.widen (k := 1) (n := 6) (Nat.le_of_ble_eq_true rfl) (Nat.le_of_ble_eq_true rfl) ?_
    refine lv_iload_n hx hb dX4_checkNumberAndName_4 rfl (lv_at hl 1 rfl) ?_
    have hPc := hP.sub (ws' := []) [] rfl
    refine pn_ci (va_runS (As := [.int p1]) (rest := []) ⟨hx, hb, hml, hown, hts⟩ (c_X4_isCalledName l D cI cZ cJ cG H.size p1) (va_cwS 1 hts (pl_S (pl_m 236 (by decide +kernel)) (pl_m 237 (by decide +kernel)) (pl_m 2 (by decide +kernel)) (pl_m 238 (by decide +kernel))) rfl rfl rfl (by decide +kernel) ⟨(Nat.le_of_ble_eq_true rfl), (Nat.le_of_ble_eq_true rfl)⟩) ⟨pn_B_blind, (pn_B_at hPc hK)⟩ rfl rfl hl.1 rfl (lv_room (Nat.le_of_ble_eq_true rfl)) dX4_checkNumberAndName_5 ⟨(Nat.le_of_ble_eq_true rfl), (Nat.le_of_ble_eq_true rfl)⟩) hS hA hP (fun r_2 H locs hw hP hS => ?_)
    have hP : va_P D vwCl [] H := hP
    rcases hw with ⟨rfl, hw⟩ | ⟨rfl, hw⟩
    · try simp only [Int32.reduceToInt] at hw
      have hw_3 := hw
      refine lv_if_ne (tgt := 22) hx hb dX4_checkNumberAndName_8 (by decide) (fun _ => ?_) (fun h9 => absurd h9 (by decide))
      refine vx_ret ?_
      refine W.widen (k := 2) (n := 12) (Nat.le_of_ble_eq_true rfl) (Nat.le_of_ble_eq_true rfl) ?_
      exact W.vret hx hb hr (fun tz_ ht hW => ⟨⟨(), rfl, (by first | exact trivial | omega | (simp only [Int32.reduceToInt] at *; omega) | decide), trivial⟩, hS.F ht⟩) hS.2.2 dX4_checkNumberAndName_22
    · try simp only [Int32.reduceToInt] at hw
      have hw_4 := hw
      refine lv_if_ne (tgt := 22) hx hb dX4_checkNumberAndName_8 (by decide) (fun h9 => absurd (by decide) h9) (fun _ => ?_)
      obtain ⟨sa_5, hstr_5⟩ := hT.2.1 (298, "a name to run is 1 to 5") (by decide +kernel)
      exact vx_throwSW (own := RX4) (cls := "java/lang/IndexOutOfBoundsException") (text := "a name to run is 1 to 5") (names := ["java/lang/RuntimeException", "java/lang/Exception"]) (ik := 120) (is := 298) (ic := 124) hx hb hst hown pn_fit.2.2.1 pn_fit.2.2.2 (hts (.classLink RX4 120 "java/lang/IndexOutOfBoundsException") (pl_m 178 (by decide +kernel))) (hts (.initialized "java/lang/IndexOutOfBoundsException") (pl_m 179 (by decide +kernel))) hstr_5 (pn_hat hts pl_x2 pn_hb3 hT) pn_hg3 hZ.1 hZ.2 hS (hl.1.trans hml.symm) dX4_checkNumberAndName_11 dX4_checkNumberAndName_14 dX4_checkNumberAndName_15 dX4_checkNumberAndName_18 dX4_checkNumberAndName_21 (fun x h9 => (hout x h9).elim) (Nat.le_of_ble_eq_true rfl) (Nat.le_of_ble_eq_true rfl) (Nat.le_of_ble_eq_true rfl) (Nat.le_of_ble_eq_true rfl) hlocks (fun t _ h1 h2 => ⟨(), trivial, ⟨rfl, (by first | exact trivial | omega | (simp only [Int32.reduceToInt] at *; omega) | decide)⟩, pn_xF hS h1 h2⟩) hS.2.2 (Nat.le_of_ble_eq_true rfl) (Nat.le_of_ble_eq_true rfl)
set_option maxHeartbeats 4000000 in
set_option maxRecDepth 100000 in
theorem c_X4_checkInterfaces (l : Launch) (D : va_G) (cI cZ cJ cG : ClassId) (sz : Nat) (p0 : Int32) (hst : l.stackTraces = false) : vx_Met l yX4_checkInterfaces (pl_h yX4_checkInterfaces cX4_checkInterfaces 1 none) ({ frames := 6, cells := 1, slots := 6, locals := 82 }) (va_Pc [.int p0] (pn_X D (pn_Y cI cZ cJ cG) [] (pn_N sz) sz)) (va_Qv (fun (u : Unit) => 0 ≤ p0.toInt ∧ p0.toInt ≤ 4095) (fun _ _ => True) (pn_N sz)) (vx_X (fun _ : Unit => True) (fun E _ _ => (E = "java/lang/IllegalArgumentException" ∧ (p0.toInt < 0 ∨ 4095 < p0.toInt))) (pn_N sz)) 1 6 (pn_N sz) := by
  refine vx_ofW (cc := cX4_checkInterfaces) (maxL := 1) (ret := none) (by decide) rfl ?_
  intro p e s m args below meth c s₁ B hml hout hv
  obtain ⟨rfl, ⟨hsz, hP, hK, hD0⟩, hZ, hT⟩ := hv
  have hx := B.exec
  have hb := B.bytes
  have hr := B.returns
  have hts0 := atoms_spec (ws := pl_h yX4_checkInterfaces cX4_checkInterfaces 1 none) B.pre
  have hts := fun (w : Cond) (h : w ∈ pw_all) => hts0 w (List.mem_cons_of_mem _ h)
  have hown : s.vm.findClass RX4 = some m.cls := findClass_of_methodNamed B.named
  have hlocks := B.notSynchronized
  subst hsz
  have hA : ∀ q : Nat, s.heap.size ≤ q → pn_N s.heap.size q := fun q h => h
  have hS : va_S (pn_N s.heap.size) s.heap s.heap [] := va_S.rf
  have hD := hD0
  have hl := lv_entry ([.int p0]) (n := 1) (Nat.le_of_ble_eq_true rfl)
  rw [lg_entry_eq]
  generalize (lg_sl ([.int p0]) ++ List.replicate (1 - (lg_sl ([.int p0])).length) Slot.unset).toArray = ls at hl ⊢
  have hl : lv_has ls 1 [(0, .int p0)] := hl
  refine lv_iload_n hx hb dX4_checkInterfaces_0 rfl (lv_at hl 0 rfl) ?_
  refine lv_if_lt (tgt := 11) hx hb dX4_checkInterfaces_1 (by decide) (fun c_1 => ?_) (fun c_1 => ?_)
  · simp only [pn_lt, pn_le, pn_eq, Int32.reduceToInt] at c_1
    obtain ⟨sa_2, hstr_2⟩ := hT.2.1 (272, "no such set of interfaces") (by decide +kernel)
    exact vx_throwSW (own := RX4) (cls := "java/lang/IllegalArgumentException") (text := "no such set of interfaces") (names := ["java/lang/RuntimeException", "java/lang/Exception"]) (ik := 45) (is := 272) (ic := 49) hx hb hst hown pn_fit.1 pn_fit.2.2.2 (hts (.classLink RX4 45 "java/lang/IllegalArgumentException") (pl_m 116 (by decide +kernel))) (hts (.initialized "java/lang/IllegalArgumentException") (pl_m 117 (by decide +kernel))) hstr_2 (pn_hat hts pl_x0 pn_hb1 hT) pn_hg1 hZ.1 hZ.2 hS (hl.1.trans hml.symm) dX4_checkInterfaces_11 dX4_checkInterfaces_14 dX4_checkInterfaces_15 dX4_checkInterfaces_18 dX4_checkInterfaces_21 (fun x h9 => (hout x h9).elim) (Nat.le_of_ble_eq_true rfl) (Nat.le_of_ble_eq_true rfl) (Nat.le_of_ble_eq_true rfl) (Nat.le_of_ble_eq_true rfl) hlocks (fun t _ h1 h2 => ⟨(), trivial, ⟨rfl, (by first | exact trivial | omega | (simp only [Int32.reduceToInt] at *; omega) | decide)⟩, pn_xF hS h1 h2⟩) hS.2.2 (Nat.le_of_ble_eq_true rfl) (Nat.le_of_ble_eq_true rfl)
  · simp only [pn_lt, pn_le, pn_eq, Int32.reduceToInt] at c_1
    refine lv_iload_n hx hb dX4_checkInterfaces_4 rfl (lv_at hl 0 rfl) ?_
    refine lv_sipush (v := 4096) hx hb dX4_checkInterfaces_5 (by decide) ?_
    refine lv_icmp_lt (tgt := 22) hx hb dX4_checkInterfaces_8 (by decide) (fun c_3 => ?_) (fun c_3 => ?_)
    · simp only [pn_lt, pn_le, pn_eq, Int32.reduceToInt] at c_3
      refine vx_ret ?_
      refine W.widen (k := 1) (n := 6) (Nat.le_of_ble_eq_true rfl) (Nat.le_of_ble_eq_true rfl) ?_
      exact W.vret hx hb hr (fun tz_ ht hW => ⟨⟨(), rfl, (by first | exact trivial | omega | (simp only [Int32.reduceToInt] at *; omega) | decide), trivial⟩, hS.F ht⟩) hS.2.2 dX4_checkInterfaces_22
    · simp only [pn_lt, pn_le, pn_eq, Int32.reduceToInt] at c_3
      obtain ⟨sa_4, hstr_4⟩ := hT.2.1 (272, "no such set of interfaces") (by decide +kernel)
      exact vx_throwSW (own := RX4) (cls := "java/lang/IllegalArgumentException") (text := "no such set of interfaces") (names := ["java/lang/RuntimeException", "java/lang/Exception"]) (ik := 45) (is := 272) (ic := 49) hx hb hst hown pn_fit.1 pn_fit.2.2.2 (hts (.classLink RX4 45 "java/lang/IllegalArgumentException") (pl_m 116 (by decide +kernel))) (hts (.initialized "java/lang/IllegalArgumentException") (pl_m 117 (by decide +kernel))) hstr_4 (pn_hat hts pl_x0 pn_hb1 hT) pn_hg1 hZ.1 hZ.2 hS (hl.1.trans hml.symm) dX4_checkInterfaces_11 dX4_checkInterfaces_14 dX4_checkInterfaces_15 dX4_checkInterfaces_18 dX4_checkInterfaces_21 (fun x h9 => (hout x h9).elim) (Nat.le_of_ble_eq_true rfl) (Nat.le_of_ble_eq_true rfl) (Nat.le_of_ble_eq_true rfl) (Nat.le_of_ble_eq_true rfl) hlocks (fun t _ h1 h2 => ⟨(), trivial, ⟨rfl, (by first | exact trivial | omega | (simp only [Int32.reduceToInt] at *; omega) | decide)⟩, pn_xF hS h1 h2⟩) hS.2.2 (Nat.le_of_ble_eq_true rfl) (Nat.le_of_ble_eq_true rfl)
set_option maxHeartbeats 4000000 in
set_option maxRecDepth 100000 in
theorem c_X4_method (l : Launch) (D : va_G) (cI cZ cJ cG : ClassId) (sz : Nat) (h0 : Nat) (t : Nat) (fi : Nat) (st : Nat) (mc : Nat) (t1 : Nat) (t2 : Nat) (t3 : Nat) (t4 : Nat) (t5 : Nat) (t6 : Nat) (t7 : Nat) (t8 : Nat) (t9 : Nat) (p0 : Int32) (p1 : Int32) (hst : l.stackTraces = false) : vx_Met l yX4_method (pl_h yX4_method cX4_method 3 (some .int)) ({ frames := 8, cells := 1, slots := 6, locals := 125 }) (va_Pc [.ref h0, .int p0, .int p1] (pn_X D (pn_Y cI cZ cJ cG) [(h0, .inr (4, [.ref t, .ref fi, .ref st, .ref mc])), (t, .inr (3, [.int 0, .ref t1, .ref t2, .ref t3, .ref t4, .ref t5, .ref t6, .ref t7, .ref t8, .ref t9]))] (pn_N sz) sz)) (va_Qi (fun (r : Int32) (u : Unit) => False) (fun _ _ => True) (pn_N sz)) (vx_X (fun _ : Unit => True) (fun E _ _ => (E = "java/lang/IndexOutOfBoundsException" ∧ True)) (pn_N sz)) 1 6 (pn_N sz) := by
  refine vx_ofW (cc := cX4_method) (maxL := 3) (ret := (some .int)) (by decide) rfl ?_
  intro p e s m args below meth c s₁ B hml hout hv
  obtain ⟨rfl, ⟨hsz, hP, hK, hD0⟩, hZ, hT⟩ := hv
  have hx := B.exec
  have hb := B.bytes
  have hr := B.returns
  have hts0 := atoms_spec (ws := pl_h yX4_method cX4_method 3 (some .int)) B.pre
  have hts := fun (w : Cond) (h : w ∈ pw_all) => hts0 w (List.mem_cons_of_mem _ h)
  have hown : s.vm.findClass RX4 = some m.cls := findClass_of_methodNamed B.named
  have hlocks := B.notSynchronized
  subst hsz
  have hA : ∀ q : Nat, s.heap.size ≤ q → pn_N s.heap.size q := fun q h => h
  have hS : va_S (pn_N s.heap.size) s.heap s.heap [] := va_S.rf
  have hD := hD0
  have hl := lv_entry ([.ref h0, .int p0, .int p1]) (n := 3) (Nat.le_of_ble_eq_true rfl)
  rw [lg_entry_eq]
  generalize (lg_sl ([.ref h0, .int p0, .int p1]) ++ List.replicate (3 - (lg_sl ([.ref h0, .int p0, .int p1])).length) Slot.unset).toArray = ls at hl ⊢
  have hl : lv_has ls 3 [(0, .ref h0), (1, .int p0), (2, .int p1)] := hl
  refine lv_aload_n hx hb dX4_method_0 rfl (lv_at hl 0 rfl) ?_
  refine lv_iload_n hx hb dX4_method_1 rfl (lv_at hl 1 rfl) ?_
  refine lv_iload_n hx hb dX4_method_2 rfl (lv_at hl 2 rfl) ?_
  have hPc := hP.sub (ws' := [(h0, .inr (4, [.ref t, .ref fi, .ref st, .ref mc])), (t, .inr (3, [.int 0, .ref t1, .ref t2, .ref t3, .ref t4, .ref t5, .ref t6, .ref t7, .ref t8, .ref t9]))]) [0, 1] rfl
  have hDc := hD.sub (ws' := [(h0, .inr (4, [.ref t, .ref fi, .ref st, .ref mc])), (t, .inr (3, [.int 0, .ref t1, .ref t2, .ref t3, .ref t4, .ref t5, .ref t6, .ref t7, .ref t8, .ref t9]))]) [0, 1] (by decide) rfl
  refine pn_xv (vx_runV (As := [.int p0, .int p1]) (rest := []) ⟨hx, hb, hml, hown, hts⟩ (c_X4_checkToldAndName l D cI cZ cJ cG s.heap.size h0 t fi st mc t1 t2 t3 t4 t5 t6 t7 t8 t9 p0 p1 hst) (cwV 2 hts (pl_V (pl_m 174 (by decide +kernel)) (pl_m 175 (by decide +kernel)) (pl_m 176 (by decide +kernel)) (pl_m 2 (by decide +kernel)) (pl_m 177 (by decide +kernel))) rfl rfl rfl (by decide +kernel) ⟨(Nat.le_of_ble_eq_true rfl), (Nat.le_of_ble_eq_true rfl)⟩) ⟨pn_X_blind, va_recv hK hPc (ci := 4) (q0 := 0) rfl rfl, (pn_X_at hPc hDc hK hS hZ hT (fun q h => pn_NA hS hA q h))⟩ rfl rfl hl.1 rfl (lv_room (Nat.le_of_ble_eq_true rfl)) dX4_method_3 ⟨(Nat.le_of_ble_eq_true rfl), (Nat.le_of_ble_eq_true rfl)⟩) hS hA hP (fun E ce q9 H locs hE hP hS h1 h2 h3 => ?_) (fun H locs hw hP hS => ?_)
  · refine pn_out (XE' := fun E => (E = "java/lang/IndexOutOfBoundsException" ∧ True)) hout hlocks hS ?_ h1 h2 h3 (Nat.le_of_ble_eq_true rfl) (Nat.le_of_ble_eq_true rfl)
    rcases hE with ⟨rfl, hE⟩
    · exact ⟨rfl, (by first | exact trivial | omega | (simp only [Int32.reduceToInt] at *; omega) | decide)⟩
  · exact hw.elim
set_option maxHeartbeats 4000000 in
set_option maxRecDepth 100000 in
theorem c_X4_open (l : Launch) (D : va_G) (cI cZ cJ cG : ClassId) (sz : Nat) (h0 : Nat) (t : Nat) (fi : Nat) (st : Nat) (mc : Nat) (t1 : Nat) (t2 : Nat) (t3 : Nat) (t4 : Nat) (t5 : Nat) (t6 : Nat) (t7 : Nat) (t8 : Nat) (t9 : Nat) (p0 : Int32) (p1 : Int32) (hst : l.stackTraces = false) : vx_Met l yX4_open (pl_h yX4_open cX4_open 3 (some .int)) ({ frames := 8, cells := 1, slots := 6, locals := 125 }) (va_Pc [.ref h0, .int p0, .int p1] (pn_X D (pn_Y cI cZ cJ cG) [(h0, .inr (4, [.ref t, .ref fi, .ref st, .ref mc])), (t, .inr (3, [.int 0, .ref t1, .ref t2, .ref t3, .ref t4, .ref t5, .ref t6, .ref t7, .ref t8, .ref t9]))] (pn_N sz) sz)) (va_Qi (fun (r : Int32) (u : Unit) => False) (fun _ _ => True) (pn_N sz)) (vx_X (fun _ : Unit => True) (fun E _ _ => (E = "java/lang/IndexOutOfBoundsException" ∧ True)) (pn_N sz)) 1 6 (pn_N sz) := by
  refine vx_ofW (cc := cX4_open) (maxL := 3) (ret := (some .int)) (by decide) rfl ?_
  intro p e s m args below meth c s₁ B hml hout hv
  obtain ⟨rfl, ⟨hsz, hP, hK, hD0⟩, hZ, hT⟩ := hv
  have hx := B.exec
  have hb := B.bytes
  have hr := B.returns
  have hts0 := atoms_spec (ws := pl_h yX4_open cX4_open 3 (some .int)) B.pre
  have hts := fun (w : Cond) (h : w ∈ pw_all) => hts0 w (List.mem_cons_of_mem _ h)
  have hown : s.vm.findClass RX4 = some m.cls := findClass_of_methodNamed B.named
  have hlocks := B.notSynchronized
  subst hsz
  have hA : ∀ q : Nat, s.heap.size ≤ q → pn_N s.heap.size q := fun q h => h
  have hS : va_S (pn_N s.heap.size) s.heap s.heap [] := va_S.rf
  have hD := hD0
  have hl := lv_entry ([.ref h0, .int p0, .int p1]) (n := 3) (Nat.le_of_ble_eq_true rfl)
  rw [lg_entry_eq]
  generalize (lg_sl ([.ref h0, .int p0, .int p1]) ++ List.replicate (3 - (lg_sl ([.ref h0, .int p0, .int p1])).length) Slot.unset).toArray = ls at hl ⊢
  have hl : lv_has ls 3 [(0, .ref h0), (1, .int p0), (2, .int p1)] := hl
  refine lv_aload_n hx hb dX4_open_0 rfl (lv_at hl 0 rfl) ?_
  refine lv_iload_n hx hb dX4_open_1 rfl (lv_at hl 1 rfl) ?_
  refine lv_iload_n hx hb dX4_open_2 rfl (lv_at hl 2 rfl) ?_
  have hPc := hP.sub (ws' := [(h0, .inr (4, [.ref t, .ref fi, .ref st, .ref mc])), (t, .inr (3, [.int 0, .ref t1, .ref t2, .ref t3, .ref t4, .ref t5, .ref t6, .ref t7, .ref t8, .ref t9]))]) [0, 1] rfl
  have hDc := hD.sub (ws' := [(h0, .inr (4, [.ref t, .ref fi, .ref st, .ref mc])), (t, .inr (3, [.int 0, .ref t1, .ref t2, .ref t3, .ref t4, .ref t5, .ref t6, .ref t7, .ref t8, .ref t9]))]) [0, 1] (by decide) rfl
  refine pn_xv (vx_runV (As := [.int p0, .int p1]) (rest := []) ⟨hx, hb, hml, hown, hts⟩ (c_X4_checkToldAndName l D cI cZ cJ cG s.heap.size h0 t fi st mc t1 t2 t3 t4 t5 t6 t7 t8 t9 p0 p1 hst) (cwV 2 hts (pl_V (pl_m 174 (by decide +kernel)) (pl_m 175 (by decide +kernel)) (pl_m 176 (by decide +kernel)) (pl_m 2 (by decide +kernel)) (pl_m 177 (by decide +kernel))) rfl rfl rfl (by decide +kernel) ⟨(Nat.le_of_ble_eq_true rfl), (Nat.le_of_ble_eq_true rfl)⟩) ⟨pn_X_blind, va_recv hK hPc (ci := 4) (q0 := 0) rfl rfl, (pn_X_at hPc hDc hK hS hZ hT (fun q h => pn_NA hS hA q h))⟩ rfl rfl hl.1 rfl (lv_room (Nat.le_of_ble_eq_true rfl)) dX4_open_3 ⟨(Nat.le_of_ble_eq_true rfl), (Nat.le_of_ble_eq_true rfl)⟩) hS hA hP (fun E ce q9 H locs hE hP hS h1 h2 h3 => ?_) (fun H locs hw hP hS => ?_)
  · refine pn_out (XE' := fun E => (E = "java/lang/IndexOutOfBoundsException" ∧ True)) hout hlocks hS ?_ h1 h2 h3 (Nat.le_of_ble_eq_true rfl) (Nat.le_of_ble_eq_true rfl)
    rcases hE with ⟨rfl, hE⟩
    · exact ⟨rfl, (by first | exact trivial | omega | (simp only [Int32.reduceToInt] at *; omega) | decide)⟩
  · exact hw.elim
set_option maxHeartbeats 4000000 in
set_option maxRecDepth 100000 in
theorem c_X4_step (l : Launch) (D : va_G) (cI cZ cJ cG : ClassId) (sz : Nat) (h0 : Nat) (t : Nat) (fi : Nat) (st : Nat) (mc : Nat) (t1 : Nat) (t2 : Nat) (t3 : Nat) (t4 : Nat) (t5 : Nat) (t6 : Nat) (t7 : Nat) (t8 : Nat) (t9 : Nat) (p0 : Int32) (p1 : Int32) (p2 : Int32) (p3 : Int32) (p4 : Int32) (hst : l.stackTraces = false) : vx_Met l yX4_step (pl_h yX4_step cX4_step 7 (some .int)) ({ frames := 8, cells := 1, slots := 6, locals := 125 }) (va_Pc [.ref h0, .int p0, .int p1, .int p2, .int p3, .int p4] (pn_X D (pn_Y cI cZ cJ cG) [(h0, .inr (4, [.ref t, .ref fi, .ref st, .ref mc])), (t, .inr (3, [.int 0, .ref t1, .ref t2, .ref t3, .ref t4, .ref t5, .ref t6, .ref t7, .ref t8, .ref t9]))] (pn_N sz) sz)) (va_Qi (fun (r : Int32) (u : Unit) => False) (fun _ _ => True) (pn_N sz)) (vx_X (fun _ : Unit => True) (fun E _ _ => (E = "java/lang/IndexOutOfBoundsException" ∧ True)) (pn_N sz)) 1 6 (pn_N sz) := by
  refine vx_ofW (cc := cX4_step) (maxL := 7) (ret := (some .int)) (by decide) rfl ?_
  intro p e s m args below meth c s₁ B hml hout hv
  obtain ⟨rfl, ⟨hsz, hP, hK, hD0⟩, hZ, hT⟩ := hv
  have hx := B.exec
  have hb := B.bytes
  have hr := B.returns
  have hts0 := atoms_spec (ws := pl_h yX4_step cX4_step 7 (some .int)) B.pre
  have hts := fun (w : Cond) (h : w ∈ pw_all) => hts0 w (List.mem_cons_of_mem _ h)
  have hown : s.vm.findClass RX4 = some m.cls := findClass_of_methodNamed B.named
  have hlocks := B.notSynchronized
  subst hsz
  have hA : ∀ q : Nat, s.heap.size ≤ q → pn_N s.heap.size q := fun q h => h
  have hS : va_S (pn_N s.heap.size) s.heap s.heap [] := va_S.rf
  have hD := hD0
  have hl := lv_entry ([.ref h0, .int p0, .int p1, .int p2, .int p3, .int p4]) (n := 7) (Nat.le_of_ble_eq_true rfl)
  rw [lg_entry_eq]
  generalize (lg_sl ([.ref h0, .int p0, .int p1, .int p2, .int p3, .int p4]) ++ List.replicate (7 - (lg_sl ([.ref h0, .int p0, .int p1, .int p2, .int p3, .int p4])).length) Slot.unset).toArray = ls at hl ⊢
  have hl : lv_has ls 7 [(0, .ref h0), (1, .int p0), (2, .int p1), (3, .int p2), (4, .int p3), (5, .int p4)] := hl
  refine lv_aload_n hx hb dX4_step_0 rfl (lv_at hl 0 rfl) ?_
  refine lv_iload_n hx hb dX4_step_1 rfl (lv_at hl 1 rfl) ?_
  refine lv_iload_n hx hb dX4_step_2 rfl (lv_at hl 2 rfl) ?_
  have hPc := hP.sub (ws' := [(h0, .inr (4, [.ref t, .ref fi, .ref st, .ref mc])), (t, .inr (3, [.int 0, .ref t1, .ref t2, .ref t3, .ref t4, .ref t5, .ref t6, .ref t7, .ref t8, .ref t9]))]) [0, 1] rfl
  have hDc := hD.sub (ws' := [(h0, .inr (4, [.ref t, .ref fi, .ref st, .ref mc])), (t, .inr (3, [.int 0, .ref t1, .ref t2, .ref t3, .ref t4, .ref t5, .ref t6, .ref t7, .ref t8, .ref t9]))]) [0, 1] (by decide) rfl
  refine pn_xv (vx_runV (As := [.int p0, .int p1]) (rest := []) ⟨hx, hb, hml, hown, hts⟩ (c_X4_checkToldAndName l D cI cZ cJ cG s.heap.size h0 t fi st mc t1 t2 t3 t4 t5 t6 t7 t8 t9 p0 p1 hst) (cwV 2 hts (pl_V (pl_m 174 (by decide +kernel)) (pl_m 175 (by decide +kernel)) (pl_m 176 (by decide +kernel)) (pl_m 2 (by decide +kernel)) (pl_m 177 (by decide +kernel))) rfl rfl rfl (by decide +kernel) ⟨(Nat.le_of_ble_eq_true rfl), (Nat.le_of_ble_eq_true rfl)⟩) ⟨pn_X_blind, va_recv hK hPc (ci := 4) (q0 := 0) rfl rfl, (pn_X_at hPc hDc hK hS hZ hT (fun q h => pn_NA hS hA q h))⟩ rfl rfl hl.1 rfl (lv_room (Nat.le_of_ble_eq_true rfl)) dX4_step_3 ⟨(Nat.le_of_ble_eq_true rfl), (Nat.le_of_ble_eq_true rfl)⟩) hS hA hP (fun E ce q9 H locs hE hP hS h1 h2 h3 => ?_) (fun H locs hw hP hS => ?_)
  · refine pn_out (XE' := fun E => (E = "java/lang/IndexOutOfBoundsException" ∧ True)) hout hlocks hS ?_ h1 h2 h3 (Nat.le_of_ble_eq_true rfl) (Nat.le_of_ble_eq_true rfl)
    rcases hE with ⟨rfl, hE⟩
    · exact ⟨rfl, (by first | exact trivial | omega | (simp only [Int32.reduceToInt] at *; omega) | decide)⟩
  · exact hw.elim
set_option maxHeartbeats 4000000 in
set_option maxRecDepth 100000 in
theorem c_X4_first (l : Launch) (D : va_G) (cI cZ cJ cG : ClassId) (sz : Nat) (h0 : Nat) (t : Nat) (fi : Nat) (st : Nat) (mc : Nat) (t1 : Nat) (t2 : Nat) (t3 : Nat) (t4 : Nat) (t5 : Nat) (t6 : Nat) (t7 : Nat) (t8 : Nat) (t9 : Nat) (p0 : Int32) (p1 : Int32) (p2 : Int32) (p3 : Int32) (hst : l.stackTraces = false) : vx_Met l yX4_first (pl_h yX4_first cX4_first 6 (some .int)) ({ frames := 7, cells := 1, slots := 6, locals := 103 }) (va_Pc [.ref h0, .int p0, .int p1, .int p2, .int p3] (pn_X D (pn_Y cI cZ cJ cG) [(h0, .inr (4, [.ref t, .ref fi, .ref st, .ref mc])), (t, .inr (3, [.int 0, .ref t1, .ref t2, .ref t3, .ref t4, .ref t5, .ref t6, .ref t7, .ref t8, .ref t9]))] (pn_N sz) sz)) (va_Qi (fun (r : Int32) (u : Unit) => False) (fun _ _ => True) (pn_N sz)) (vx_X (fun _ : Unit => True) (fun E _ _ => (E = "java/lang/IndexOutOfBoundsException" ∧ True)) (pn_N sz)) 1 6 (pn_N sz) := by
  refine vx_ofW (cc := cX4_first) (maxL := 6) (ret := (some .int)) (by decide) rfl ?_
  intro p e s m args below meth c s₁ B hml hout hv
  obtain ⟨rfl, ⟨hsz, hP, hK, hD0⟩, hZ, hT⟩ := hv
  have hx := B.exec
  have hb := B.bytes
  have hr := B.returns
  have hts0 := atoms_spec (ws := pl_h yX4_first cX4_first 6 (some .int)) B.pre
  have hts := fun (w : Cond) (h : w ∈ pw_all) => hts0 w (List.mem_cons_of_mem _ h)
  have hown : s.vm.findClass RX4 = some m.cls := findClass_of_methodNamed B.named
  have hlocks := B.notSynchronized
  subst hsz
  have hA : ∀ q : Nat, s.heap.size ≤ q → pn_N s.heap.size q := fun q h => h
  have hS : va_S (pn_N s.heap.size) s.heap s.heap [] := va_S.rf
  have hD := hD0
  have hl := lv_entry ([.ref h0, .int p0, .int p1, .int p2, .int p3]) (n := 6) (Nat.le_of_ble_eq_true rfl)
  rw [lg_entry_eq]
  generalize (lg_sl ([.ref h0, .int p0, .int p1, .int p2, .int p3]) ++ List.replicate (6 - (lg_sl ([.ref h0, .int p0, .int p1, .int p2, .int p3])).length) Slot.unset).toArray = ls at hl ⊢
  have hl : lv_has ls 6 [(0, .ref h0), (1, .int p0), (2, .int p1), (3, .int p2), (4, .int p3)] := hl
  refine lv_aload_n hx hb dX4_first_0 rfl (lv_at hl 0 rfl) ?_
  refine lv_iload_n hx hb dX4_first_1 rfl (lv_at hl 1 rfl) ?_
  have hPc := hP.sub (ws' := [(h0, .inr (4, [.ref t, .ref fi, .ref st, .ref mc])), (t, .inr (3, [.int 0, .ref t1, .ref t2, .ref t3, .ref t4, .ref t5, .ref t6, .ref t7, .ref t8, .ref t9]))]) [0, 1] rfl
  have hDc := hD.sub (ws' := [(h0, .inr (4, [.ref t, .ref fi, .ref st, .ref mc])), (t, .inr (3, [.int 0, .ref t1, .ref t2, .ref t3, .ref t4, .ref t5, .ref t6, .ref t7, .ref t8, .ref t9]))]) [0, 1] (by decide) rfl
  refine pn_xv (vx_runV (As := [.int p0]) (rest := []) ⟨hx, hb, hml, hown, hts⟩ (c_X4_checkTold l D cI cZ cJ cG s.heap.size h0 t fi st mc t1 t2 t3 t4 t5 t6 t7 t8 t9 p0 hst) (cwV 1 hts (pl_V (pl_m 180 (by decide +kernel)) (pl_m 181 (by decide +kernel)) (pl_m 182 (by decide +kernel)) (pl_m 2 (by decide +kernel)) (pl_m 183 (by decide +kernel))) rfl rfl rfl (by decide +kernel) ⟨(Nat.le_of_ble_eq_true rfl), (Nat.le_of_ble_eq_true rfl)⟩) ⟨pn_X_blind, va_recv hK hPc (ci := 4) (q0 := 0) rfl rfl, (pn_X_at hPc hDc hK hS hZ hT (fun q h => pn_NA hS hA q h))⟩ rfl rfl hl.1 rfl (lv_room (Nat.le_of_ble_eq_true rfl)) dX4_first_2 ⟨(Nat.le_of_ble_eq_true rfl), (Nat.le_of_ble_eq_true rfl)⟩) hS hA hP (fun E ce q9 H locs hE hP hS h1 h2 h3 => ?_) (fun H locs hw hP hS => ?_)
  · refine pn_out (XE' := fun E => (E = "java/lang/IndexOutOfBoundsException" ∧ True)) hout hlocks hS ?_ h1 h2 h3 (Nat.le_of_ble_eq_true rfl) (Nat.le_of_ble_eq_true rfl)
    rcases hE with ⟨rfl, hE⟩
    · exact ⟨rfl, (by first | exact trivial | omega | (simp only [Int32.reduceToInt] at *; omega) | decide)⟩
  · exact hw.elim
set_option maxHeartbeats 4000000 in
set_option maxRecDepth 100000 in
theorem c_X4_field (l : Launch) (D : va_G) (cI cZ cJ cG : ClassId) (sz : Nat) (h0 : Nat) (t : Nat) (fi : Nat) (st : Nat) (mc : Nat) (t1 : Nat) (t2 : Nat) (t3 : Nat) (t4 : Nat) (t5 : Nat) (t6 : Nat) (t7 : Nat) (t8 : Nat) (t9 : Nat) (p0 : Int32) (p1 : Int32) (hst : l.stackTraces = false) : vx_Met l yX4_field (pl_h yX4_field cX4_field 3 (some .boolean)) ({ frames := 7, cells := 1, slots := 6, locals := 103 }) (va_Pc [.ref h0, .int p0, .int p1] (pn_X D (pn_Y cI cZ cJ cG) [(h0, .inr (4, [.ref t, .ref fi, .ref st, .ref mc])), (t, .inr (3, [.int 0, .ref t1, .ref t2, .ref t3, .ref t4, .ref t5, .ref t6, .ref t7, .ref t8, .ref t9]))] (pn_N sz) sz)) (va_Qi (fun (r : Int32) (u : Unit) => False) (fun _ _ => True) (pn_N sz)) (vx_X (fun _ : Unit => True) (fun E _ _ => (E = "java/lang/IndexOutOfBoundsException" ∧ True)) (pn_N sz)) 1 6 (pn_N sz) := by
  refine vx_ofW (cc := cX4_field) (maxL := 3) (ret := (some .boolean)) (by decide) rfl ?_
  intro p e s m args below meth c s₁ B hml hout hv
  obtain ⟨rfl, ⟨hsz, hP, hK, hD0⟩, hZ, hT⟩ := hv
  have hx := B.exec
  have hb := B.bytes
  have hr := B.returns
  have hts0 := atoms_spec (ws := pl_h yX4_field cX4_field 3 (some .boolean)) B.pre
  have hts := fun (w : Cond) (h : w ∈ pw_all) => hts0 w (List.mem_cons_of_mem _ h)
  have hown : s.vm.findClass RX4 = some m.cls := findClass_of_methodNamed B.named
  have hlocks := B.notSynchronized
  subst hsz
  have hA : ∀ q : Nat, s.heap.size ≤ q → pn_N s.heap.size q := fun q h => h
  have hS : va_S (pn_N s.heap.size) s.heap s.heap [] := va_S.rf
  have hD := hD0
  have hl := lv_entry ([.ref h0, .int p0, .int p1]) (n := 3) (Nat.le_of_ble_eq_true rfl)
  rw [lg_entry_eq]
  generalize (lg_sl ([.ref h0, .int p0, .int p1]) ++ List.replicate (3 - (lg_sl ([.ref h0, .int p0, .int p1])).length) Slot.unset).toArray = ls at hl ⊢
  have hl : lv_has ls 3 [(0, .ref h0), (1, .int p0), (2, .int p1)] := hl
  refine lv_aload_n hx hb dX4_field_0 rfl (lv_at hl 0 rfl) ?_
  refine lv_iload_n hx hb dX4_field_1 rfl (lv_at hl 1 rfl) ?_
  have hPc := hP.sub (ws' := [(h0, .inr (4, [.ref t, .ref fi, .ref st, .ref mc])), (t, .inr (3, [.int 0, .ref t1, .ref t2, .ref t3, .ref t4, .ref t5, .ref t6, .ref t7, .ref t8, .ref t9]))]) [0, 1] rfl
  have hDc := hD.sub (ws' := [(h0, .inr (4, [.ref t, .ref fi, .ref st, .ref mc])), (t, .inr (3, [.int 0, .ref t1, .ref t2, .ref t3, .ref t4, .ref t5, .ref t6, .ref t7, .ref t8, .ref t9]))]) [0, 1] (by decide) rfl
  refine pn_xv (vx_runV (As := [.int p0]) (rest := []) ⟨hx, hb, hml, hown, hts⟩ (c_X4_checkTold l D cI cZ cJ cG s.heap.size h0 t fi st mc t1 t2 t3 t4 t5 t6 t7 t8 t9 p0 hst) (cwV 1 hts (pl_V (pl_m 180 (by decide +kernel)) (pl_m 181 (by decide +kernel)) (pl_m 182 (by decide +kernel)) (pl_m 2 (by decide +kernel)) (pl_m 183 (by decide +kernel))) rfl rfl rfl (by decide +kernel) ⟨(Nat.le_of_ble_eq_true rfl), (Nat.le_of_ble_eq_true rfl)⟩) ⟨pn_X_blind, va_recv hK hPc (ci := 4) (q0 := 0) rfl rfl, (pn_X_at hPc hDc hK hS hZ hT (fun q h => pn_NA hS hA q h))⟩ rfl rfl hl.1 rfl (lv_room (Nat.le_of_ble_eq_true rfl)) dX4_field_2 ⟨(Nat.le_of_ble_eq_true rfl), (Nat.le_of_ble_eq_true rfl)⟩) hS hA hP (fun E ce q9 H locs hE hP hS h1 h2 h3 => ?_) (fun H locs hw hP hS => ?_)
  · refine pn_out (XE' := fun E => (E = "java/lang/IndexOutOfBoundsException" ∧ True)) hout hlocks hS ?_ h1 h2 h3 (Nat.le_of_ble_eq_true rfl) (Nat.le_of_ble_eq_true rfl)
    rcases hE with ⟨rfl, hE⟩
    · exact ⟨rfl, (by first | exact trivial | omega | (simp only [Int32.reduceToInt] at *; omega) | decide)⟩
  · exact hw.elim
set_option maxHeartbeats 4000000 in
set_option maxRecDepth 100000 in
theorem c_X4_ofClass (l : Launch) (D : va_G) (cI cZ cJ cG : ClassId) (sz : Nat) (h0 : Nat) (t : Nat) (fi : Nat) (st : Nat) (mc : Nat) (t1 : Nat) (t2 : Nat) (t3 : Nat) (t4 : Nat) (t5 : Nat) (t6 : Nat) (t7 : Nat) (t8 : Nat) (t9 : Nat) (p0 : Int32) (p1 : Int32) (hst : l.stackTraces = false) : vx_Met l yX4_ofClass (pl_h yX4_ofClass cX4_ofClass 4 (some .int)) ({ frames := 7, cells := 1, slots := 6, locals := 103 }) (va_Pc [.ref h0, .int p0, .int p1] (pn_X D (pn_Y cI cZ cJ cG) [(h0, .inr (4, [.ref t, .ref fi, .ref st, .ref mc])), (t, .inr (3, [.int 0, .ref t1, .ref t2, .ref t3, .ref t4, .ref t5, .ref t6, .ref t7, .ref t8, .ref t9]))] (pn_N sz) sz)) (va_Qi (fun (r : Int32) (u : Unit) => False) (fun _ _ => True) (pn_N sz)) (vx_X (fun _ : Unit => True) (fun E _ _ => (E = "java/lang/IndexOutOfBoundsException" ∧ True)) (pn_N sz)) 1 6 (pn_N sz) := by
  refine vx_ofW (cc := cX4_ofClass) (maxL := 4) (ret := (some .int)) (by decide) rfl ?_
  intro p e s m args below meth c s₁ B hml hout hv
  obtain ⟨rfl, ⟨hsz, hP, hK, hD0⟩, hZ, hT⟩ := hv
  have hx := B.exec
  have hb := B.bytes
  have hr := B.returns
  have hts0 := atoms_spec (ws := pl_h yX4_ofClass cX4_ofClass 4 (some .int)) B.pre
  have hts := fun (w : Cond) (h : w ∈ pw_all) => hts0 w (List.mem_cons_of_mem _ h)
  have hown : s.vm.findClass RX4 = some m.cls := findClass_of_methodNamed B.named
  have hlocks := B.notSynchronized
  subst hsz
  have hA : ∀ q : Nat, s.heap.size ≤ q → pn_N s.heap.size q := fun q h => h
  have hS : va_S (pn_N s.heap.size) s.heap s.heap [] := va_S.rf
  have hD := hD0
  have hl := lv_entry ([.ref h0, .int p0, .int p1]) (n := 4) (Nat.le_of_ble_eq_true rfl)
  rw [lg_entry_eq]
  generalize (lg_sl ([.ref h0, .int p0, .int p1]) ++ List.replicate (4 - (lg_sl ([.ref h0, .int p0, .int p1])).length) Slot.unset).toArray = ls at hl ⊢
  have hl : lv_has ls 4 [(0, .ref h0), (1, .int p0), (2, .int p1)] := hl
  refine lv_aload_n hx hb dX4_ofClass_0 rfl (lv_at hl 0 rfl) ?_
  refine lv_iload_n hx hb dX4_ofClass_1 rfl (lv_at hl 1 rfl) ?_
  have hPc := hP.sub (ws' := [(h0, .inr (4, [.ref t, .ref fi, .ref st, .ref mc])), (t, .inr (3, [.int 0, .ref t1, .ref t2, .ref t3, .ref t4, .ref t5, .ref t6, .ref t7, .ref t8, .ref t9]))]) [0, 1] rfl
  have hDc := hD.sub (ws' := [(h0, .inr (4, [.ref t, .ref fi, .ref st, .ref mc])), (t, .inr (3, [.int 0, .ref t1, .ref t2, .ref t3, .ref t4, .ref t5, .ref t6, .ref t7, .ref t8, .ref t9]))]) [0, 1] (by decide) rfl
  refine pn_xv (vx_runV (As := [.int p0]) (rest := []) ⟨hx, hb, hml, hown, hts⟩ (c_X4_checkTold l D cI cZ cJ cG s.heap.size h0 t fi st mc t1 t2 t3 t4 t5 t6 t7 t8 t9 p0 hst) (cwV 1 hts (pl_V (pl_m 180 (by decide +kernel)) (pl_m 181 (by decide +kernel)) (pl_m 182 (by decide +kernel)) (pl_m 2 (by decide +kernel)) (pl_m 183 (by decide +kernel))) rfl rfl rfl (by decide +kernel) ⟨(Nat.le_of_ble_eq_true rfl), (Nat.le_of_ble_eq_true rfl)⟩) ⟨pn_X_blind, va_recv hK hPc (ci := 4) (q0 := 0) rfl rfl, (pn_X_at hPc hDc hK hS hZ hT (fun q h => pn_NA hS hA q h))⟩ rfl rfl hl.1 rfl (lv_room (Nat.le_of_ble_eq_true rfl)) dX4_ofClass_2 ⟨(Nat.le_of_ble_eq_true rfl), (Nat.le_of_ble_eq_true rfl)⟩) hS hA hP (fun E ce q9 H locs hE hP hS h1 h2 h3 => ?_) (fun H locs hw hP hS => ?_)
  · refine pn_out (XE' := fun E => (E = "java/lang/IndexOutOfBoundsException" ∧ True)) hout hlocks hS ?_ h1 h2 h3 (Nat.le_of_ble_eq_true rfl) (Nat.le_of_ble_eq_true rfl)
    rcases hE with ⟨rfl, hE⟩
    · exact ⟨rfl, (by first | exact trivial | omega | (simp only [Int32.reduceToInt] at *; omega) | decide)⟩
  · exact hw.elim
set_option maxHeartbeats 4000000 in
set_option maxRecDepth 100000 in
theorem c_X4_finds (l : Launch) (D : va_G) (cI cZ cJ cG : ClassId) (sz : Nat) (h0 : Nat) (t : Nat) (fi : Nat) (st : Nat) (mc : Nat) (t1 : Nat) (t2 : Nat) (t3 : Nat) (t4 : Nat) (t5 : Nat) (t6 : Nat) (t7 : Nat) (t8 : Nat) (t9 : Nat) (p0 : Int32) (p1 : Int32) (hst : l.stackTraces = false) : vx_Met l yX4_finds (pl_h yX4_finds cX4_finds 3 (some .int)) ({ frames := 7, cells := 1, slots := 6, locals := 104 }) (va_Pc [.ref h0, .int p0, .int p1] (pn_X D (pn_Y cI cZ cJ cG) [(h0, .inr (4, [.ref t, .ref fi, .ref st, .ref mc])), (t, .inr (3, [.int 0, .ref t1, .ref t2, .ref t3, .ref t4, .ref t5, .ref t6, .ref t7, .ref t8, .ref t9]))] (pn_N sz) sz)) (va_Qi (fun (r : Int32) (u : Unit) => False) (fun _ _ => True) (pn_N sz)) (vx_X (fun _ : Unit => True) (fun E _ _ => (E = "java/lang/IndexOutOfBoundsException" ∧ True)) (pn_N sz)) 1 6 (pn_N sz) := by
  refine vx_ofW (cc := cX4_finds) (maxL := 3) (ret := (some .int)) (by decide) rfl ?_
  intro p e s m args below meth c s₁ B hml hout hv
  obtain ⟨rfl, ⟨hsz, hP, hK, hD0⟩, hZ, hT⟩ := hv
  have hx := B.exec
  have hb := B.bytes
  have hr := B.returns
  have hts0 := atoms_spec (ws := pl_h yX4_finds cX4_finds 3 (some .int)) B.pre
  have hts := fun (w : Cond) (h : w ∈ pw_all) => hts0 w (List.mem_cons_of_mem _ h)
  have hown : s.vm.findClass RX4 = some m.cls := findClass_of_methodNamed B.named
  have hlocks := B.notSynchronized
  subst hsz
  have hA : ∀ q : Nat, s.heap.size ≤ q → pn_N s.heap.size q := fun q h => h
  have hS : va_S (pn_N s.heap.size) s.heap s.heap [] := va_S.rf
  have hD := hD0
  have hl := lv_entry ([.ref h0, .int p0, .int p1]) (n := 3) (Nat.le_of_ble_eq_true rfl)
  rw [lg_entry_eq]
  generalize (lg_sl ([.ref h0, .int p0, .int p1]) ++ List.replicate (3 - (lg_sl ([.ref h0, .int p0, .int p1])).length) Slot.unset).toArray = ls at hl ⊢
  have hl : lv_has ls 3 [(0, .ref h0), (1, .int p0), (2, .int p1)] := hl
  refine lv_aload_n hx hb dX4_finds_0 rfl (lv_at hl 0 rfl) ?_
  refine lv_iload_n hx hb dX4_finds_1 rfl (lv_at hl 1 rfl) ?_
  refine lv_iload_n hx hb dX4_finds_2 rfl (lv_at hl 2 rfl) ?_
  have hPc := hP.sub (ws' := [(h0, .inr (4, [.ref t, .ref fi, .ref st, .ref mc])), (t, .inr (3, [.int 0, .ref t1, .ref t2, .ref t3, .ref t4, .ref t5, .ref t6, .ref t7, .ref t8, .ref t9]))]) [0, 1] rfl
  have hDc := hD.sub (ws' := [(h0, .inr (4, [.ref t, .ref fi, .ref st, .ref mc])), (t, .inr (3, [.int 0, .ref t1, .ref t2, .ref t3, .ref t4, .ref t5, .ref t6, .ref t7, .ref t8, .ref t9]))]) [0, 1] (by decide) rfl
  refine pn_xv (vx_runV (As := [.int p0, .int p1]) (rest := []) ⟨hx, hb, hml, hown, hts⟩ (c_X4_checkFinder l D cI cZ cJ cG s.heap.size h0 t fi st mc t1 t2 t3 t4 t5 t6 t7 t8 t9 p0 p1 hst) (cwV 2 hts (pl_V (pl_m 656 (by decide +kernel)) (pl_m 657 (by decide +kernel)) (pl_m 658 (by decide +kernel)) (pl_m 2 (by decide +kernel)) (pl_m 659 (by decide +kernel))) rfl rfl rfl (by decide +kernel) ⟨(Nat.le_of_ble_eq_true rfl), (Nat.le_of_ble_eq_true rfl)⟩) ⟨pn_X_blind, va_recv hK hPc (ci := 4) (q0 := 0) rfl rfl, (pn_X_at hPc hDc hK hS hZ hT (fun q h => pn_NA hS hA q h))⟩ rfl rfl hl.1 rfl (lv_room (Nat.le_of_ble_eq_true rfl)) dX4_finds_3 ⟨(Nat.le_of_ble_eq_true rfl), (Nat.le_of_ble_eq_true rfl)⟩) hS hA hP (fun E ce q9 H locs hE hP hS h1 h2 h3 => ?_) (fun H locs hw hP hS => ?_)
  · refine pn_out (XE' := fun E => (E = "java/lang/IndexOutOfBoundsException" ∧ True)) hout hlocks hS ?_ h1 h2 h3 (Nat.le_of_ble_eq_true rfl) (Nat.le_of_ble_eq_true rfl)
    rcases hE with ⟨rfl, hE⟩
    · exact ⟨rfl, (by first | exact trivial | omega | (simp only [Int32.reduceToInt] at *; omega) | decide)⟩
  · exact hw.elim
set_option maxHeartbeats 4000000 in
set_option maxRecDepth 100000 in
theorem c_X4_slot (l : Launch) (D : va_G) (cI cZ cJ cG : ClassId) (sz : Nat) (h0 : Nat) (t : Nat) (fi : Nat) (st : Nat) (mc : Nat) (t1 : Nat) (t2 : Nat) (t3 : Nat) (t4 : Nat) (t5 : Nat) (t6 : Nat) (t7 : Nat) (t8 : Nat) (t9 : Nat) (p0 : Int32) (p1 : Int32) (hst : l.stackTraces = false) : vx_Met l yX4_slot (pl_h yX4_slot cX4_slot 3 (some .int)) ({ frames := 7, cells := 1, slots := 6, locals := 104 }) (va_Pc [.ref h0, .int p0, .int p1] (pn_X D (pn_Y cI cZ cJ cG) [(h0, .inr (4, [.ref t, .ref fi, .ref st, .ref mc])), (t, .inr (3, [.int 0, .ref t1, .ref t2, .ref t3, .ref t4, .ref t5, .ref t6, .ref t7, .ref t8, .ref t9]))] (pn_N sz) sz)) (va_Qi (fun (r : Int32) (u : Unit) => False) (fun _ _ => True) (pn_N sz)) (vx_X (fun _ : Unit => True) (fun E _ _ => (E = "java/lang/IndexOutOfBoundsException" ∧ True)) (pn_N sz)) 1 6 (pn_N sz) := by
  refine vx_ofW (cc := cX4_slot) (maxL := 3) (ret := (some .int)) (by decide) rfl ?_
  intro p e s m args below meth c s₁ B hml hout hv
  obtain ⟨rfl, ⟨hsz, hP, hK, hD0⟩, hZ, hT⟩ := hv
  have hx := B.exec
  have hb := B.bytes
  have hr := B.returns
  have hts0 := atoms_spec (ws := pl_h yX4_slot cX4_slot 3 (some .int)) B.pre
  have hts := fun (w : Cond) (h : w ∈ pw_all) => hts0 w (List.mem_cons_of_mem _ h)
  have hown : s.vm.findClass RX4 = some m.cls := findClass_of_methodNamed B.named
  have hlocks := B.notSynchronized
  subst hsz
  have hA : ∀ q : Nat, s.heap.size ≤ q → pn_N s.heap.size q := fun q h => h
  have hS : va_S (pn_N s.heap.size) s.heap s.heap [] := va_S.rf
  have hD := hD0
  have hl := lv_entry ([.ref h0, .int p0, .int p1]) (n := 3) (Nat.le_of_ble_eq_true rfl)
  rw [lg_entry_eq]
  generalize (lg_sl ([.ref h0, .int p0, .int p1]) ++ List.replicate (3 - (lg_sl ([.ref h0, .int p0, .int p1])).length) Slot.unset).toArray = ls at hl ⊢
  have hl : lv_has ls 3 [(0, .ref h0), (1, .int p0), (2, .int p1)] := hl
  refine lv_aload_n hx hb dX4_slot_0 rfl (lv_at hl 0 rfl) ?_
  refine lv_iload_n hx hb dX4_slot_1 rfl (lv_at hl 1 rfl) ?_
  refine lv_iload_n hx hb dX4_slot_2 rfl (lv_at hl 2 rfl) ?_
  have hPc := hP.sub (ws' := [(h0, .inr (4, [.ref t, .ref fi, .ref st, .ref mc])), (t, .inr (3, [.int 0, .ref t1, .ref t2, .ref t3, .ref t4, .ref t5, .ref t6, .ref t7, .ref t8, .ref t9]))]) [0, 1] rfl
  have hDc := hD.sub (ws' := [(h0, .inr (4, [.ref t, .ref fi, .ref st, .ref mc])), (t, .inr (3, [.int 0, .ref t1, .ref t2, .ref t3, .ref t4, .ref t5, .ref t6, .ref t7, .ref t8, .ref t9]))]) [0, 1] (by decide) rfl
  refine pn_xv (vx_runV (As := [.int p0, .int p1]) (rest := []) ⟨hx, hb, hml, hown, hts⟩ (c_X4_checkFinder l D cI cZ cJ cG s.heap.size h0 t fi st mc t1 t2 t3 t4 t5 t6 t7 t8 t9 p0 p1 hst) (cwV 2 hts (pl_V (pl_m 656 (by decide +kernel)) (pl_m 657 (by decide +kernel)) (pl_m 658 (by decide +kernel)) (pl_m 2 (by decide +kernel)) (pl_m 659 (by decide +kernel))) rfl rfl rfl (by decide +kernel) ⟨(Nat.le_of_ble_eq_true rfl), (Nat.le_of_ble_eq_true rfl)⟩) ⟨pn_X_blind, va_recv hK hPc (ci := 4) (q0 := 0) rfl rfl, (pn_X_at hPc hDc hK hS hZ hT (fun q h => pn_NA hS hA q h))⟩ rfl rfl hl.1 rfl (lv_room (Nat.le_of_ble_eq_true rfl)) dX4_slot_3 ⟨(Nat.le_of_ble_eq_true rfl), (Nat.le_of_ble_eq_true rfl)⟩) hS hA hP (fun E ce q9 H locs hE hP hS h1 h2 h3 => ?_) (fun H locs hw hP hS => ?_)
  · refine pn_out (XE' := fun E => (E = "java/lang/IndexOutOfBoundsException" ∧ True)) hout hlocks hS ?_ h1 h2 h3 (Nat.le_of_ble_eq_true rfl) (Nat.le_of_ble_eq_true rfl)
    rcases hE with ⟨rfl, hE⟩
    · exact ⟨rfl, (by first | exact trivial | omega | (simp only [Int32.reduceToInt] at *; omega) | decide)⟩
  · exact hw.elim
set_option maxHeartbeats 4000000 in
set_option maxRecDepth 100000 in
theorem c_X4_ofPlace (l : Launch) (D : va_G) (cI cZ cJ cG : ClassId) (sz : Nat) (h0 : Nat) (t : Nat) (fi : Nat) (st : Nat) (mc : Nat) (t1 : Nat) (t2 : Nat) (t3 : Nat) (t4 : Nat) (t5 : Nat) (t6 : Nat) (t7 : Nat) (t8 : Nat) (t9 : Nat) (p0 : Int32) (p1 : Int32) (p2 : Int32) (p3 : Int32) (hst : l.stackTraces = false) : vx_Met l yX4_ofPlace (pl_h yX4_ofPlace cX4_ofPlace 6 (some .int)) ({ frames := 6, cells := 1, slots := 6, locals := 82 }) (va_Pc [.ref h0, .int p0, .int p1, .int p2, .int p3] (pn_X D (pn_Y cI cZ cJ cG) [(h0, .inr (4, [.ref t, .ref fi, .ref st, .ref mc])), (t, .inr (3, [.int 0, .ref t1, .ref t2, .ref t3, .ref t4, .ref t5, .ref t6, .ref t7, .ref t8, .ref t9]))] (pn_N sz) sz)) (va_Qi (fun (r : Int32) (u : Unit) => False) (fun _ _ => True) (pn_N sz)) (vx_X (fun _ : Unit => True) (fun E _ _ => (E = "java/lang/IndexOutOfBoundsException" ∧ True)) (pn_N sz)) 1 6 (pn_N sz) := by
  refine vx_ofW (cc := cX4_ofPlace) (maxL := 6) (ret := (some .int)) (by decide) rfl ?_
  intro p e s m args below meth c s₁ B hml hout hv
  obtain ⟨rfl, ⟨hsz, hP, hK, hD0⟩, hZ, hT⟩ := hv
  have hx := B.exec
  have hb := B.bytes
  have hr := B.returns
  have hts0 := atoms_spec (ws := pl_h yX4_ofPlace cX4_ofPlace 6 (some .int)) B.pre
  have hts := fun (w : Cond) (h : w ∈ pw_all) => hts0 w (List.mem_cons_of_mem _ h)
  have hown : s.vm.findClass RX4 = some m.cls := findClass_of_methodNamed B.named
  have hlocks := B.notSynchronized
  subst hsz
  have hA : ∀ q : Nat, s.heap.size ≤ q → pn_N s.heap.size q := fun q h => h
  have hS : va_S (pn_N s.heap.size) s.heap s.heap [] := va_S.rf
  have hD := hD0
  have hl := lv_entry ([.ref h0, .int p0, .int p1, .int p2, .int p3]) (n := 6) (Nat.le_of_ble_eq_true rfl)
  rw [lg_entry_eq]
  generalize (lg_sl ([.ref h0, .int p0, .int p1, .int p2, .int p3]) ++ List.replicate (6 - (lg_sl ([.ref h0, .int p0, .int p1, .int p2, .int p3])).length) Slot.unset).toArray = ls at hl ⊢
  have hl : lv_has ls 6 [(0, .ref h0), (1, .int p0), (2, .int p1), (3, .int p2), (4, .int p3)] := hl
  refine lv_aload_n hx hb dX4_ofPlace_0 rfl (lv_at hl 0 rfl) ?_
  refine lv_iload_n hx hb dX4_ofPlace_1 rfl (lv_at hl 1 rfl) ?_
  refine lv_iload_n hx hb dX4_ofPlace_2 rfl (lv_at hl 2 rfl) ?_
  refine lv_iload_n hx hb dX4_ofPlace_3 rfl (lv_at hl 3 rfl) ?_
  have hPc := hP.sub (ws' := [(h0, .inr (4, [.ref t, .ref fi, .ref st, .ref mc])), (t, .inr (3, [.int 0, .ref t1, .ref t2, .ref t3, .ref t4, .ref t5, .ref t6, .ref t7, .ref t8, .ref t9]))]) [0, 1] rfl
  refine pn_ci (va_runV (As := [.int p0, .int p1, .int p2]) (rest := []) ⟨hx, hb, hml, hown, hts⟩ (c_X4_isPlace l D cI cZ cJ cG s.heap.size h0 t fi st mc t1 t2 t3 t4 t5 t6 t7 t8 t9 p0 p1 p2) (cwV 3 hts (pl_V (pl_m 696 (by decide +kernel)) (pl_m 697 (by decide +kernel)) (pl_m 698 (by decide +kernel)) (pl_m 2 (by decide +kernel)) (pl_m 699 (by decide +kernel))) rfl rfl rfl (by decide +kernel) ⟨(Nat.le_of_ble_eq_true rfl), (Nat.le_of_ble_eq_true rfl)⟩) ⟨pn_B_blind, va_recv hK hPc (ci := 4) (q0 := 0) rfl rfl, (pn_B_at hPc hK)⟩ rfl rfl hl.1 rfl (lv_room (Nat.le_of_ble_eq_true rfl)) dX4_ofPlace_4 ⟨(Nat.le_of_ble_eq_true rfl), (Nat.le_of_ble_eq_true rfl)⟩) hS hA hP (fun r_1 H locs hw hP hS => ?_)
  have hP : va_P D vwCl [(h0, .inr (4, [.ref t, .ref fi, .ref st, .ref mc])), (t, .inr (3, [.int 0, .ref t1, .ref t2, .ref t3, .ref t4, .ref t5, .ref t6, .ref t7, .ref t8, .ref t9]))] H := hP
  obtain ⟨rfl, hw⟩ := hw
  try simp only [Int32.reduceToInt] at hw
  refine lv_if_ne (tgt := 20) hx hb dX4_ofPlace_7 (by decide) (fun h9 => absurd (by decide) h9) (fun _ => ?_)
  obtain ⟨sa_2, hstr_2⟩ := hT.2.1 (182, "no such place") (by decide +kernel)
  exact vx_throwS (own := RX4) (cls := "java/lang/IndexOutOfBoundsException") (text := "no such place") (names := ["java/lang/RuntimeException", "java/lang/Exception"]) (ik := 120) (is := 182) (ic := 124) hx hb hst hown pn_fit.2.2.1 pn_fit.2.2.2 (hts (.classLink RX4 120 "java/lang/IndexOutOfBoundsException") (pl_m 178 (by decide +kernel))) (hts (.initialized "java/lang/IndexOutOfBoundsException") (pl_m 179 (by decide +kernel))) hstr_2 (pn_hat hts pl_x2 pn_hb3 hT) pn_hg3 hZ.1 hZ.2 hS (hl.1.trans hml.symm) dX4_ofPlace_10 dX4_ofPlace_13 dX4_ofPlace_14 dX4_ofPlace_16 dX4_ofPlace_19 (fun x h9 => (hout x h9).elim) (Nat.le_of_ble_eq_true rfl) (Nat.le_of_ble_eq_true rfl) (Nat.le_of_ble_eq_true rfl) (Nat.le_of_ble_eq_true rfl) hlocks (fun t _ h1 h2 => ⟨(), trivial, ⟨rfl, (by first | exact trivial | omega | (simp only [Int32.reduceToInt] at *; omega) | decide)⟩, pn_xF hS h1 h2⟩) hS.2.2 (Nat.le_of_ble_eq_true rfl) (Nat.le_of_ble_eq_true rfl)
set_option maxHeartbeats 4000000 in
set_option maxRecDepth 100000 in
theorem c_X4_many (l : Launch) (D : va_G) (cI cZ cJ cG : ClassId) (sz : Nat) (h0 : Nat) (t : Nat) (fi : Nat) (st : Nat) (mc : Nat) (t1 : Nat) (t2 : Nat) (t3 : Nat) (t4 : Nat) (t5 : Nat) (t6 : Nat) (t7 : Nat) (t8 : Nat) (t9 : Nat) (s5 : Nat) (s6 : Nat) (s7 : Nat) (s8 : Nat) (s9 : Nat) (s10 : Nat) (s11 : Nat) (s12 : Nat) (s13 : Nat) (s14 : Nat) (s15 : Nat) (s16 : Nat) (p0 : Int32) (hst : l.stackTraces = false) : vx_Met l yX4_many (pl_h yX4_many cX4_many 2 (some .int)) ({ frames := 6, cells := 1, slots := 6, locals := 82 }) (va_Pc [.ref h0, .int p0] (pn_X D (pn_Y cI cZ cJ cG) [(h0, .inr (4, [.ref t, .ref fi, .ref st, .ref mc])), (t, .inr (3, [.int 0, .ref t1, .ref t2, .ref t3, .ref t4, .ref t5, .ref t6, .ref t7, .ref t8, .ref t9])), (st, .inr (2, [.int 0, .int 0, .long 0, .int 0, .int 0, .ref s5, .ref s6, .ref s7, .ref s8, .ref s9, .ref s10, .ref s11, .ref s12, .ref s13, .ref s14, .ref s15, .ref s16]))] (pn_N sz) sz)) (va_Qi (fun (r : Int32) (u : Unit) => (r = 0 ∧ 0 ≤ p0.toInt ∧ p0.toInt ≤ 13)) (fun _ _ => True) (pn_N sz)) (vx_X (fun _ : Unit => True) (fun E _ _ => (E = "java/lang/IllegalArgumentException" ∧ (p0.toInt < 0 ∨ 13 < p0.toInt))) (pn_N sz)) 1 6 (pn_N sz) := by
  refine vx_ofW (cc := cX4_many) (maxL := 2) (ret := (some .int)) (by decide) rfl ?_
  intro p e s m args below meth c s₁ B hml hout hv
  obtain ⟨rfl, ⟨hsz, hP, hK, hD0⟩, hZ, hT⟩ := hv
  have hx := B.exec
  have hb := B.bytes
  have hr := B.returns
  have hts0 := atoms_spec (ws := pl_h yX4_many cX4_many 2 (some .int)) B.pre
  have hts := fun (w : Cond) (h : w ∈ pw_all) => hts0 w (List.mem_cons_of_mem _ h)
  have hown : s.vm.findClass RX4 = some m.cls := findClass_of_methodNamed B.named
  have hlocks := B.notSynchronized
  subst hsz
  have hA : ∀ q : Nat, s.heap.size ≤ q → pn_N s.heap.size q := fun q h => h
  have hS : va_S (pn_N s.heap.size) s.heap s.heap [] := va_S.rf
  have hD := hD0
  have hl := lv_entry ([.ref h0, .int p0]) (n := 2) (Nat.le_of_ble_eq_true rfl)
  rw [lg_entry_eq]
  generalize (lg_sl ([.ref h0, .int p0]) ++ List.replicate (2 - (lg_sl ([.ref h0, .int p0])).length) Slot.unset).toArray = ls at hl ⊢
  have hl : lv_has ls 2 [(0, .ref h0), (1, .int p0)] := hl
  refine lv_iload_n hx hb dX4_many_0 rfl (lv_at hl 1 rfl) ?_
  rcases (show (p0.toInt < 0 ∨ 13 < p0.toInt) ∨ p0 = 0 ∨ p0 = 1 ∨ p0 = 2 ∨ p0 = 3 ∨ p0 = 4 ∨ p0 = 5 ∨ p0 = 6 ∨ p0 = 7 ∨ p0 = 8 ∨ p0 = 9 ∨ p0 = 10 ∨ p0 = 11 ∨ p0 = 12 ∨ p0 = 13 from by simp only [pn_eq, Int32.reduceToInt]; omega) with hsw | rfl | rfl | rfl | rfl | rfl | rfl | rfl | rfl | rfl | rfl | rfl | rfl | rfl | rfl
  · refine lv_tableOut (tgt := 221) hx hb dX4_many_1 hsw (by decide) ?_
    obtain ⟨sa_1, hstr_1⟩ := hT.2.1 (228, "what is 0 to 13") (by decide +kernel)
    exact vx_throwS (own := RX4) (cls := "java/lang/IllegalArgumentException") (text := "what is 0 to 13") (names := ["java/lang/RuntimeException", "java/lang/Exception"]) (ik := 45) (is := 228) (ic := 49) hx hb hst hown pn_fit.1 pn_fit.2.2.2 (hts (.classLink RX4 45 "java/lang/IllegalArgumentException") (pl_m 116 (by decide +kernel))) (hts (.initialized "java/lang/IllegalArgumentException") (pl_m 117 (by decide +kernel))) hstr_1 (pn_hat hts pl_x0 pn_hb1 hT) pn_hg1 hZ.1 hZ.2 hS (hl.1.trans hml.symm) dX4_many_221 dX4_many_224 dX4_many_225 dX4_many_227 dX4_many_230 (fun x h9 => (hout x h9).elim) (Nat.le_of_ble_eq_true rfl) (Nat.le_of_ble_eq_true rfl) (Nat.le_of_ble_eq_true rfl) (Nat.le_of_ble_eq_true rfl) hlocks (fun t _ h1 h2 => ⟨(), trivial, ⟨rfl, (by first | exact trivial | omega | (simp only [Int32.reduceToInt] at *; omega) | decide)⟩, pn_xF hS h1 h2⟩) hS.2.2 (Nat.le_of_ble_eq_true rfl) (Nat.le_of_ble_eq_true rfl)
  · refine lv_tableIn (off := 71) (tgt := 72) hx hb dX4_many_1 (by decide) (by decide) (by decide +kernel) (by decide) ?_
    refine lv_aload_n hx hb dX4_many_72 rfl (lv_at hl 0 rfl) ?_
    refine va_get (D := D) (ci := 4) (v := .ref t) (C := RX4) (T := TX4) (N := 4) hx hb hts inlX4 hown hK hP 0 rfl rfl 0 (by decide) (hts (.fieldLink RX4 12 "VtableTown" "told" "LVtableTown$Told;") (pl_m 16 (by decide +kernel))) (fun _ h9 => h9) rfl dX4_many_73 ?_
    refine va_get (D := D) (ci := 3) (v := .int 0) (C := RX3) (T := TX3) (N := 10) hx hb hts inlX3 hown hK hP 1 rfl rfl 0 (by decide) (hts (.fieldLink RX4 41 "VtableTown$Told" "count" "I") (pl_m 118 (by decide +kernel))) (fun _ h9 => h9) rfl dX4_many_76 ?_
    refine vx_ret ?_
    refine W.widen (k := 1) (n := 6) (Nat.le_of_ble_eq_true rfl) (Nat.le_of_ble_eq_true rfl) ?_
    exact W.iret (v := 0) hx hb hr (fun tz_ ht hW => ⟨⟨0, (), rfl, ⟨rfl, (by first | exact trivial | omega | (simp only [Int32.reduceToInt] at *; omega) | decide)⟩, trivial⟩, hS.F ht⟩) hS.2.2 dX4_many_79
  · refine lv_tableIn (off := 79) (tgt := 80) hx hb dX4_many_1 (by decide) (by decide) (by decide +kernel) (by decide) ?_
    refine lv_aload_n hx hb dX4_many_80 rfl (lv_at hl 0 rfl) ?_
    refine lv_aload_n hx hb dX4_many_81 rfl (lv_at hl 0 rfl) ?_
    refine va_get (D := D) (ci := 4) (v := .ref st) (C := RX4) (T := TX4) (N := 4) hx hb hts inlX4 hown hK hP 0 rfl rfl 2 (by decide) (hts (.fieldLink RX4 28 "VtableTown" "state" "LVtableTown$State;") (pl_m 24 (by decide +kernel))) (fun _ h9 => h9) rfl dX4_many_82 ?_
    refine va_get (D := D) (ci := 2) (v := .ref s5) (C := RX2) (T := TX2) (N := 17) hx hb hts inlX2 hown hK hP 2 rfl rfl 5 (by decide) (hts (.fieldLink RX4 144 "VtableTown$State" "status" "[I") (pl_m 192 (by decide +kernel))) (fun _ h9 => h9) rfl dX4_many_85 ?_
    refine lv_iconst (v := 0) hx hb dX4_many_88 (by decide) ?_
    have hPc := hP.sub (ws' := [(h0, .inr (4, [.ref t, .ref fi, .ref st, .ref mc])), (t, .inr (3, [.int 0, .ref t1, .ref t2, .ref t3, .ref t4, .ref t5, .ref t6, .ref t7, .ref t8, .ref t9]))]) [0, 1] rfl
    refine pn_ci (va_runV (As := [.ref s5, .int 0]) (rest := []) ⟨hx, hb, hml, hown, hts⟩ (c_X4_countClasses l D cI cZ cJ cG s.heap.size h0 t fi st mc t1 t2 t3 t4 t5 t6 t7 t8 t9 s5 0) (cwV 2 hts (pl_V (pl_m 721 (by decide +kernel)) (pl_m 722 (by decide +kernel)) (pl_m 723 (by decide +kernel)) (pl_m 2 (by decide +kernel)) (pl_m 724 (by decide +kernel))) rfl rfl rfl (by decide +kernel) ⟨(Nat.le_of_ble_eq_true rfl), (Nat.le_of_ble_eq_true rfl)⟩) ⟨pn_B_blind, va_recv hK hPc (ci := 4) (q0 := 0) rfl rfl, (pn_B_at hPc hK)⟩ rfl rfl hl.1 rfl (lv_room (Nat.le_of_ble_eq_true rfl)) dX4_many_89 ⟨(Nat.le_of_ble_eq_true rfl), (Nat.le_of_ble_eq_true rfl)⟩) hS hA hP (fun r_2 H locs hw hP hS => ?_)
    have hP : va_P D vwCl [(h0, .inr (4, [.ref t, .ref fi, .ref st, .ref mc])), (t, .inr (3, [.int 0, .ref t1, .ref t2, .ref t3, .ref t4, .ref t5, .ref t6, .ref t7, .ref t8, .ref t9])), (st, .inr (2, [.int 0, .int 0, .long 0, .int 0, .int 0, .ref s5, .ref s6, .ref s7, .ref s8, .ref s9, .ref s10, .ref s11, .ref s12, .ref s13, .ref s14, .ref s15, .ref s16]))] H := hP
    obtain ⟨rfl, hw⟩ := hw
    try simp only [Int32.reduceToInt] at hw
    refine vx_ret ?_
    refine W.widen (k := 1) (n := 6) (Nat.le_of_ble_eq_true rfl) (Nat.le_of_ble_eq_true rfl) ?_
    exact W.iret (v := 0) hx hb hr (fun tz_ ht hW => ⟨⟨0, (), rfl, ⟨rfl, (by first | exact trivial | omega | (simp only [Int32.reduceToInt] at *; omega) | decide)⟩, trivial⟩, hS.F ht⟩) hS.2.2 dX4_many_92
  · refine lv_tableIn (off := 92) (tgt := 93) hx hb dX4_many_1 (by decide) (by decide) (by decide +kernel) (by decide) ?_
    refine lv_aload_n hx hb dX4_many_93 rfl (lv_at hl 0 rfl) ?_
    refine lv_aload_n hx hb dX4_many_94 rfl (lv_at hl 0 rfl) ?_
    refine va_get (D := D) (ci := 4) (v := .ref st) (C := RX4) (T := TX4) (N := 4) hx hb hts inlX4 hown hK hP 0 rfl rfl 2 (by decide) (hts (.fieldLink RX4 28 "VtableTown" "state" "LVtableTown$State;") (pl_m 24 (by decide +kernel))) (fun _ h9 => h9) rfl dX4_many_95 ?_
    refine va_get (D := D) (ci := 2) (v := .ref s5) (C := RX2) (T := TX2) (N := 17) hx hb hts inlX2 hown hK hP 2 rfl rfl 5 (by decide) (hts (.fieldLink RX4 144 "VtableTown$State" "status" "[I") (pl_m 192 (by decide +kernel))) (fun _ h9 => h9) rfl dX4_many_98 ?_
    refine lv_iconst (v := 1) hx hb dX4_many_101 (by decide) ?_
    have hPc := hP.sub (ws' := [(h0, .inr (4, [.ref t, .ref fi, .ref st, .ref mc])), (t, .inr (3, [.int 0, .ref t1, .ref t2, .ref t3, .ref t4, .ref t5, .ref t6, .ref t7, .ref t8, .ref t9]))]) [0, 1] rfl
    refine pn_ci (va_runV (As := [.ref s5, .int 1]) (rest := []) ⟨hx, hb, hml, hown, hts⟩ (c_X4_countClasses l D cI cZ cJ cG s.heap.size h0 t fi st mc t1 t2 t3 t4 t5 t6 t7 t8 t9 s5 1) (cwV 2 hts (pl_V (pl_m 721 (by decide +kernel)) (pl_m 722 (by decide +kernel)) (pl_m 723 (by decide +kernel)) (pl_m 2 (by decide +kernel)) (pl_m 724 (by decide +kernel))) rfl rfl rfl (by decide +kernel) ⟨(Nat.le_of_ble_eq_true rfl), (Nat.le_of_ble_eq_true rfl)⟩) ⟨pn_B_blind, va_recv hK hPc (ci := 4) (q0 := 0) rfl rfl, (pn_B_at hPc hK)⟩ rfl rfl hl.1 rfl (lv_room (Nat.le_of_ble_eq_true rfl)) dX4_many_102 ⟨(Nat.le_of_ble_eq_true rfl), (Nat.le_of_ble_eq_true rfl)⟩) hS hA hP (fun r_3 H locs hw hP hS => ?_)
    have hP : va_P D vwCl [(h0, .inr (4, [.ref t, .ref fi, .ref st, .ref mc])), (t, .inr (3, [.int 0, .ref t1, .ref t2, .ref t3, .ref t4, .ref t5, .ref t6, .ref t7, .ref t8, .ref t9])), (st, .inr (2, [.int 0, .int 0, .long 0, .int 0, .int 0, .ref s5, .ref s6, .ref s7, .ref s8, .ref s9, .ref s10, .ref s11, .ref s12, .ref s13, .ref s14, .ref s15, .ref s16]))] H := hP
    obtain ⟨rfl, hw⟩ := hw
    try simp only [Int32.reduceToInt] at hw
    refine vx_ret ?_
    refine W.widen (k := 1) (n := 6) (Nat.le_of_ble_eq_true rfl) (Nat.le_of_ble_eq_true rfl) ?_
    exact W.iret (v := 0) hx hb hr (fun tz_ ht hW => ⟨⟨0, (), rfl, ⟨rfl, (by first | exact trivial | omega | (simp only [Int32.reduceToInt] at *; omega) | decide)⟩, trivial⟩, hS.F ht⟩) hS.2.2 dX4_many_105
  · refine lv_tableIn (off := 105) (tgt := 106) hx hb dX4_many_1 (by decide) (by decide) (by decide +kernel) (by decide) ?_
    refine lv_aload_n hx hb dX4_many_106 rfl (lv_at hl 0 rfl) ?_
    refine lv_aload_n hx hb dX4_many_107 rfl (lv_at hl 0 rfl) ?_
    refine va_get (D := D) (ci := 4) (v := .ref st) (C := RX4) (T := TX4) (N := 4) hx hb hts inlX4 hown hK hP 0 rfl rfl 2 (by decide) (hts (.fieldLink RX4 28 "VtableTown" "state" "LVtableTown$State;") (pl_m 24 (by decide +kernel))) (fun _ h9 => h9) rfl dX4_many_108 ?_
    refine va_get (D := D) (ci := 2) (v := .ref s5) (C := RX2) (T := TX2) (N := 17) hx hb hts inlX2 hown hK hP 2 rfl rfl 5 (by decide) (hts (.fieldLink RX4 144 "VtableTown$State" "status" "[I") (pl_m 192 (by decide +kernel))) (fun _ h9 => h9) rfl dX4_many_111 ?_
    refine lv_iconst (v := 2) hx hb dX4_many_114 (by decide) ?_
    have hPc := hP.sub (ws' := [(h0, .inr (4, [.ref t, .ref fi, .ref st, .ref mc])), (t, .inr (3, [.int 0, .ref t1, .ref t2, .ref t3, .ref t4, .ref t5, .ref t6, .ref t7, .ref t8, .ref t9]))]) [0, 1] rfl
    refine pn_ci (va_runV (As := [.ref s5, .int 2]) (rest := []) ⟨hx, hb, hml, hown, hts⟩ (c_X4_countClasses l D cI cZ cJ cG s.heap.size h0 t fi st mc t1 t2 t3 t4 t5 t6 t7 t8 t9 s5 2) (cwV 2 hts (pl_V (pl_m 721 (by decide +kernel)) (pl_m 722 (by decide +kernel)) (pl_m 723 (by decide +kernel)) (pl_m 2 (by decide +kernel)) (pl_m 724 (by decide +kernel))) rfl rfl rfl (by decide +kernel) ⟨(Nat.le_of_ble_eq_true rfl), (Nat.le_of_ble_eq_true rfl)⟩) ⟨pn_B_blind, va_recv hK hPc (ci := 4) (q0 := 0) rfl rfl, (pn_B_at hPc hK)⟩ rfl rfl hl.1 rfl (lv_room (Nat.le_of_ble_eq_true rfl)) dX4_many_115 ⟨(Nat.le_of_ble_eq_true rfl), (Nat.le_of_ble_eq_true rfl)⟩) hS hA hP (fun r_4 H locs hw hP hS => ?_)
    have hP : va_P D vwCl [(h0, .inr (4, [.ref t, .ref fi, .ref st, .ref mc])), (t, .inr (3, [.int 0, .ref t1, .ref t2, .ref t3, .ref t4, .ref t5, .ref t6, .ref t7, .ref t8, .ref t9])), (st, .inr (2, [.int 0, .int 0, .long 0, .int 0, .int 0, .ref s5, .ref s6, .ref s7, .ref s8, .ref s9, .ref s10, .ref s11, .ref s12, .ref s13, .ref s14, .ref s15, .ref s16]))] H := hP
    obtain ⟨rfl, hw⟩ := hw
    try simp only [Int32.reduceToInt] at hw
    refine vx_ret ?_
    refine W.widen (k := 1) (n := 6) (Nat.le_of_ble_eq_true rfl) (Nat.le_of_ble_eq_true rfl) ?_
    exact W.iret (v := 0) hx hb hr (fun tz_ ht hW => ⟨⟨0, (), rfl, ⟨rfl, (by first | exact trivial | omega | (simp only [Int32.reduceToInt] at *; omega) | decide)⟩, trivial⟩, hS.F ht⟩) hS.2.2 dX4_many_118
  · refine lv_tableIn (off := 118) (tgt := 119) hx hb dX4_many_1 (by decide) (by decide) (by decide +kernel) (by decide) ?_
    refine lv_aload_n hx hb dX4_many_119 rfl (lv_at hl 0 rfl) ?_
    refine lv_aload_n hx hb dX4_many_120 rfl (lv_at hl 0 rfl) ?_
    refine va_get (D := D) (ci := 4) (v := .ref st) (C := RX4) (T := TX4) (N := 4) hx hb hts inlX4 hown hK hP 0 rfl rfl 2 (by decide) (hts (.fieldLink RX4 28 "VtableTown" "state" "LVtableTown$State;") (pl_m 24 (by decide +kernel))) (fun _ h9 => h9) rfl dX4_many_121 ?_
    refine va_get (D := D) (ci := 2) (v := .ref s7) (C := RX2) (T := TX2) (N := 17) hx hb hts inlX2 hown hK hP 2 rfl rfl 7 (by decide) (hts (.fieldLink RX4 150 "VtableTown$State" "wakes" "[I") (pl_m 624 (by decide +kernel))) (fun _ h9 => h9) rfl dX4_many_124 ?_
    refine lv_iconst (v := 2) hx hb dX4_many_127 (by decide) ?_
    have hPc := hP.sub (ws' := [(h0, .inr (4, [.ref t, .ref fi, .ref st, .ref mc])), (t, .inr (3, [.int 0, .ref t1, .ref t2, .ref t3, .ref t4, .ref t5, .ref t6, .ref t7, .ref t8, .ref t9]))]) [0, 1] rfl
    refine pn_ci (va_runV (As := [.ref s7, .int 2]) (rest := []) ⟨hx, hb, hml, hown, hts⟩ (c_X4_countClasses l D cI cZ cJ cG s.heap.size h0 t fi st mc t1 t2 t3 t4 t5 t6 t7 t8 t9 s7 2) (cwV 2 hts (pl_V (pl_m 721 (by decide +kernel)) (pl_m 722 (by decide +kernel)) (pl_m 723 (by decide +kernel)) (pl_m 2 (by decide +kernel)) (pl_m 724 (by decide +kernel))) rfl rfl rfl (by decide +kernel) ⟨(Nat.le_of_ble_eq_true rfl), (Nat.le_of_ble_eq_true rfl)⟩) ⟨pn_B_blind, va_recv hK hPc (ci := 4) (q0 := 0) rfl rfl, (pn_B_at hPc hK)⟩ rfl rfl hl.1 rfl (lv_room (Nat.le_of_ble_eq_true rfl)) dX4_many_128 ⟨(Nat.le_of_ble_eq_true rfl), (Nat.le_of_ble_eq_true rfl)⟩) hS hA hP (fun r_5 H locs hw hP hS => ?_)
    have hP : va_P D vwCl [(h0, .inr (4, [.ref t, .ref fi, .ref st, .ref mc])), (t, .inr (3, [.int 0, .ref t1, .ref t2, .ref t3, .ref t4, .ref t5, .ref t6, .ref t7, .ref t8, .ref t9])), (st, .inr (2, [.int 0, .int 0, .long 0, .int 0, .int 0, .ref s5, .ref s6, .ref s7, .ref s8, .ref s9, .ref s10, .ref s11, .ref s12, .ref s13, .ref s14, .ref s15, .ref s16]))] H := hP
    obtain ⟨rfl, hw⟩ := hw
    try simp only [Int32.reduceToInt] at hw
    refine vx_ret ?_
    refine W.widen (k := 1) (n := 6) (Nat.le_of_ble_eq_true rfl) (Nat.le_of_ble_eq_true rfl) ?_
    exact W.iret (v := 0) hx hb hr (fun tz_ ht hW => ⟨⟨0, (), rfl, ⟨rfl, (by first | exact trivial | omega | (simp only [Int32.reduceToInt] at *; omega) | decide)⟩, trivial⟩, hS.F ht⟩) hS.2.2 dX4_many_131
  · refine lv_tableIn (off := 131) (tgt := 132) hx hb dX4_many_1 (by decide) (by decide) (by decide +kernel) (by decide) ?_
    refine lv_aload_n hx hb dX4_many_132 rfl (lv_at hl 0 rfl) ?_
    have hPc := hP.sub (ws' := [(h0, .inr (4, [.ref t, .ref fi, .ref st, .ref mc])), (t, .inr (3, [.int 0, .ref t1, .ref t2, .ref t3, .ref t4, .ref t5, .ref t6, .ref t7, .ref t8, .ref t9]))]) [0, 1] rfl
    refine pn_ci (va_runV (As := []) (rest := []) ⟨hx, hb, hml, hown, hts⟩ (c_X4_countPlaces l D cI cZ cJ cG s.heap.size h0 t fi st mc t1 t2 t3 t4 t5 t6 t7 t8 t9) (cwV 0 hts (pl_V (pl_m 725 (by decide +kernel)) (pl_m 726 (by decide +kernel)) (pl_m 727 (by decide +kernel)) (pl_m 2 (by decide +kernel)) (pl_m 728 (by decide +kernel))) rfl rfl rfl (by decide +kernel) ⟨(Nat.le_of_ble_eq_true rfl), (Nat.le_of_ble_eq_true rfl)⟩) ⟨pn_B_blind, va_recv hK hPc (ci := 4) (q0 := 0) rfl rfl, (pn_B_at hPc hK)⟩ rfl rfl hl.1 rfl (lv_room (Nat.le_of_ble_eq_true rfl)) dX4_many_133 ⟨(Nat.le_of_ble_eq_true rfl), (Nat.le_of_ble_eq_true rfl)⟩) hS hA hP (fun r_6 H locs hw hP hS => ?_)
    have hP : va_P D vwCl [(h0, .inr (4, [.ref t, .ref fi, .ref st, .ref mc])), (t, .inr (3, [.int 0, .ref t1, .ref t2, .ref t3, .ref t4, .ref t5, .ref t6, .ref t7, .ref t8, .ref t9])), (st, .inr (2, [.int 0, .int 0, .long 0, .int 0, .int 0, .ref s5, .ref s6, .ref s7, .ref s8, .ref s9, .ref s10, .ref s11, .ref s12, .ref s13, .ref s14, .ref s15, .ref s16]))] H := hP
    obtain ⟨rfl, hw⟩ := hw
    try simp only [Int32.reduceToInt] at hw
    refine vx_ret ?_
    refine W.widen (k := 1) (n := 6) (Nat.le_of_ble_eq_true rfl) (Nat.le_of_ble_eq_true rfl) ?_
    exact W.iret (v := 0) hx hb hr (fun tz_ ht hW => ⟨⟨0, (), rfl, ⟨rfl, (by first | exact trivial | omega | (simp only [Int32.reduceToInt] at *; omega) | decide)⟩, trivial⟩, hS.F ht⟩) hS.2.2 dX4_many_136
  · refine lv_tableIn (off := 136) (tgt := 137) hx hb dX4_many_1 (by decide) (by decide) (by decide +kernel) (by decide) ?_
    refine lv_aload_n hx hb dX4_many_137 rfl (lv_at hl 0 rfl) ?_
    refine lv_aload_n hx hb dX4_many_138 rfl (lv_at hl 0 rfl) ?_
    refine va_get (D := D) (ci := 4) (v := .ref st) (C := RX4) (T := TX4) (N := 4) hx hb hts inlX4 hown hK hP 0 rfl rfl 2 (by decide) (hts (.fieldLink RX4 28 "VtableTown" "state" "LVtableTown$State;") (pl_m 24 (by decide +kernel))) (fun _ h9 => h9) rfl dX4_many_139 ?_
    refine va_get (D := D) (ci := 2) (v := .ref s11) (C := RX2) (T := TX2) (N := 17) hx hb hts inlX2 hown hK hP 2 rfl rfl 11 (by decide) (hts (.fieldLink RX4 184 "VtableTown$State" "direct" "[I") (pl_m 691 (by decide +kernel))) (fun _ h9 => h9) rfl dX4_many_142 ?_
    have hPc := hP.sub (ws' := [(h0, .inr (4, [.ref t, .ref fi, .ref st, .ref mc])), (t, .inr (3, [.int 0, .ref t1, .ref t2, .ref t3, .ref t4, .ref t5, .ref t6, .ref t7, .ref t8, .ref t9]))]) [0, 1] rfl
    refine pn_ci (va_runV (As := [.ref s11]) (rest := []) ⟨hx, hb, hml, hown, hts⟩ (c_X4_sumOfPlaces l D cI cZ cJ cG s.heap.size h0 t fi st mc t1 t2 t3 t4 t5 t6 t7 t8 t9 s11) (cwV 1 hts (pl_V (pl_m 729 (by decide +kernel)) (pl_m 730 (by decide +kernel)) (pl_m 731 (by decide +kernel)) (pl_m 2 (by decide +kernel)) (pl_m 732 (by decide +kernel))) rfl rfl rfl (by decide +kernel) ⟨(Nat.le_of_ble_eq_true rfl), (Nat.le_of_ble_eq_true rfl)⟩) ⟨pn_B_blind, va_recv hK hPc (ci := 4) (q0 := 0) rfl rfl, (pn_B_at hPc hK)⟩ rfl rfl hl.1 rfl (lv_room (Nat.le_of_ble_eq_true rfl)) dX4_many_145 ⟨(Nat.le_of_ble_eq_true rfl), (Nat.le_of_ble_eq_true rfl)⟩) hS hA hP (fun r_7 H locs hw hP hS => ?_)
    have hP : va_P D vwCl [(h0, .inr (4, [.ref t, .ref fi, .ref st, .ref mc])), (t, .inr (3, [.int 0, .ref t1, .ref t2, .ref t3, .ref t4, .ref t5, .ref t6, .ref t7, .ref t8, .ref t9])), (st, .inr (2, [.int 0, .int 0, .long 0, .int 0, .int 0, .ref s5, .ref s6, .ref s7, .ref s8, .ref s9, .ref s10, .ref s11, .ref s12, .ref s13, .ref s14, .ref s15, .ref s16]))] H := hP
    obtain ⟨rfl, hw⟩ := hw
    try simp only [Int32.reduceToInt] at hw
    refine vx_ret ?_
    refine W.widen (k := 1) (n := 6) (Nat.le_of_ble_eq_true rfl) (Nat.le_of_ble_eq_true rfl) ?_
    exact W.iret (v := 0) hx hb hr (fun tz_ ht hW => ⟨⟨0, (), rfl, ⟨rfl, (by first | exact trivial | omega | (simp only [Int32.reduceToInt] at *; omega) | decide)⟩, trivial⟩, hS.F ht⟩) hS.2.2 dX4_many_148
  · refine lv_tableIn (off := 148) (tgt := 149) hx hb dX4_many_1 (by decide) (by decide) (by decide +kernel) (by decide) ?_
    refine lv_aload_n hx hb dX4_many_149 rfl (lv_at hl 0 rfl) ?_
    refine lv_aload_n hx hb dX4_many_150 rfl (lv_at hl 0 rfl) ?_
    refine va_get (D := D) (ci := 4) (v := .ref st) (C := RX4) (T := TX4) (N := 4) hx hb hts inlX4 hown hK hP 0 rfl rfl 2 (by decide) (hts (.fieldLink RX4 28 "VtableTown" "state" "LVtableTown$State;") (pl_m 24 (by decide +kernel))) (fun _ h9 => h9) rfl dX4_many_151 ?_
    refine va_get (D := D) (ci := 2) (v := .ref s15) (C := RX2) (T := TX2) (N := 17) hx hb hts inlX2 hown hK hP 2 rfl rfl 15 (by decide) (hts (.fieldLink RX4 196 "VtableTown$State" "gaveUp" "[I") (pl_m 694 (by decide +kernel))) (fun _ h9 => h9) rfl dX4_many_154 ?_
    have hPc := hP.sub (ws' := [(h0, .inr (4, [.ref t, .ref fi, .ref st, .ref mc])), (t, .inr (3, [.int 0, .ref t1, .ref t2, .ref t3, .ref t4, .ref t5, .ref t6, .ref t7, .ref t8, .ref t9]))]) [0, 1] rfl
    refine pn_ci (va_runV (As := [.ref s15]) (rest := []) ⟨hx, hb, hml, hown, hts⟩ (c_X4_sumOfPlaces l D cI cZ cJ cG s.heap.size h0 t fi st mc t1 t2 t3 t4 t5 t6 t7 t8 t9 s15) (cwV 1 hts (pl_V (pl_m 729 (by decide +kernel)) (pl_m 730 (by decide +kernel)) (pl_m 731 (by decide +kernel)) (pl_m 2 (by decide +kernel)) (pl_m 732 (by decide +kernel))) rfl rfl rfl (by decide +kernel) ⟨(Nat.le_of_ble_eq_true rfl), (Nat.le_of_ble_eq_true rfl)⟩) ⟨pn_B_blind, va_recv hK hPc (ci := 4) (q0 := 0) rfl rfl, (pn_B_at hPc hK)⟩ rfl rfl hl.1 rfl (lv_room (Nat.le_of_ble_eq_true rfl)) dX4_many_157 ⟨(Nat.le_of_ble_eq_true rfl), (Nat.le_of_ble_eq_true rfl)⟩) hS hA hP (fun r_8 H locs hw hP hS => ?_)
    have hP : va_P D vwCl [(h0, .inr (4, [.ref t, .ref fi, .ref st, .ref mc])), (t, .inr (3, [.int 0, .ref t1, .ref t2, .ref t3, .ref t4, .ref t5, .ref t6, .ref t7, .ref t8, .ref t9])), (st, .inr (2, [.int 0, .int 0, .long 0, .int 0, .int 0, .ref s5, .ref s6, .ref s7, .ref s8, .ref s9, .ref s10, .ref s11, .ref s12, .ref s13, .ref s14, .ref s15, .ref s16]))] H := hP
    obtain ⟨rfl, hw⟩ := hw
    try simp only [Int32.reduceToInt] at hw
    refine vx_ret ?_
    refine W.widen (k := 1) (n := 6) (Nat.le_of_ble_eq_true rfl) (Nat.le_of_ble_eq_true rfl) ?_
    exact W.iret (v := 0) hx hb hr (fun tz_ ht hW => ⟨⟨0, (), rfl, ⟨rfl, (by first | exact trivial | omega | (simp only [Int32.reduceToInt] at *; omega) | decide)⟩, trivial⟩, hS.F ht⟩) hS.2.2 dX4_many_160
  · refine lv_tableIn (off := 160) (tgt := 161) hx hb dX4_many_1 (by decide) (by decide) (by decide +kernel) (by decide) ?_
    refine lv_aload_n hx hb dX4_many_161 rfl (lv_at hl 0 rfl) ?_
    refine lv_aload_n hx hb dX4_many_162 rfl (lv_at hl 0 rfl) ?_
    refine va_get (D := D) (ci := 4) (v := .ref st) (C := RX4) (T := TX4) (N := 4) hx hb hts inlX4 hown hK hP 0 rfl rfl 2 (by decide) (hts (.fieldLink RX4 28 "VtableTown" "state" "LVtableTown$State;") (pl_m 24 (by decide +kernel))) (fun _ h9 => h9) rfl dX4_many_163 ?_
    refine va_get (D := D) (ci := 2) (v := .ref s16) (C := RX2) (T := TX2) (N := 17) hx hb hts inlX2 hown hK hP 2 rfl rfl 16 (by decide) (hts (.fieldLink RX4 199 "VtableTown$State" "turned" "[I") (pl_m 695 (by decide +kernel))) (fun _ h9 => h9) rfl dX4_many_166 ?_
    have hPc := hP.sub (ws' := [(h0, .inr (4, [.ref t, .ref fi, .ref st, .ref mc])), (t, .inr (3, [.int 0, .ref t1, .ref t2, .ref t3, .ref t4, .ref t5, .ref t6, .ref t7, .ref t8, .ref t9]))]) [0, 1] rfl
    refine pn_ci (va_runV (As := [.ref s16]) (rest := []) ⟨hx, hb, hml, hown, hts⟩ (c_X4_sumOfPlaces l D cI cZ cJ cG s.heap.size h0 t fi st mc t1 t2 t3 t4 t5 t6 t7 t8 t9 s16) (cwV 1 hts (pl_V (pl_m 729 (by decide +kernel)) (pl_m 730 (by decide +kernel)) (pl_m 731 (by decide +kernel)) (pl_m 2 (by decide +kernel)) (pl_m 732 (by decide +kernel))) rfl rfl rfl (by decide +kernel) ⟨(Nat.le_of_ble_eq_true rfl), (Nat.le_of_ble_eq_true rfl)⟩) ⟨pn_B_blind, va_recv hK hPc (ci := 4) (q0 := 0) rfl rfl, (pn_B_at hPc hK)⟩ rfl rfl hl.1 rfl (lv_room (Nat.le_of_ble_eq_true rfl)) dX4_many_169 ⟨(Nat.le_of_ble_eq_true rfl), (Nat.le_of_ble_eq_true rfl)⟩) hS hA hP (fun r_9 H locs hw hP hS => ?_)
    have hP : va_P D vwCl [(h0, .inr (4, [.ref t, .ref fi, .ref st, .ref mc])), (t, .inr (3, [.int 0, .ref t1, .ref t2, .ref t3, .ref t4, .ref t5, .ref t6, .ref t7, .ref t8, .ref t9])), (st, .inr (2, [.int 0, .int 0, .long 0, .int 0, .int 0, .ref s5, .ref s6, .ref s7, .ref s8, .ref s9, .ref s10, .ref s11, .ref s12, .ref s13, .ref s14, .ref s15, .ref s16]))] H := hP
    obtain ⟨rfl, hw⟩ := hw
    try simp only [Int32.reduceToInt] at hw
    refine vx_ret ?_
    refine W.widen (k := 1) (n := 6) (Nat.le_of_ble_eq_true rfl) (Nat.le_of_ble_eq_true rfl) ?_
    exact W.iret (v := 0) hx hb hr (fun tz_ ht hW => ⟨⟨0, (), rfl, ⟨rfl, (by first | exact trivial | omega | (simp only [Int32.reduceToInt] at *; omega) | decide)⟩, trivial⟩, hS.F ht⟩) hS.2.2 dX4_many_172
  · refine lv_tableIn (off := 172) (tgt := 173) hx hb dX4_many_1 (by decide) (by decide) (by decide +kernel) (by decide) ?_
    refine lv_aload_n hx hb dX4_many_173 rfl (lv_at hl 0 rfl) ?_
    refine lv_aload_n hx hb dX4_many_174 rfl (lv_at hl 0 rfl) ?_
    refine va_get (D := D) (ci := 4) (v := .ref st) (C := RX4) (T := TX4) (N := 4) hx hb hts inlX4 hown hK hP 0 rfl rfl 2 (by decide) (hts (.fieldLink RX4 28 "VtableTown" "state" "LVtableTown$State;") (pl_m 24 (by decide +kernel))) (fun _ h9 => h9) rfl dX4_many_175 ?_
    refine va_get (D := D) (ci := 2) (v := .ref s13) (C := RX2) (T := TX2) (N := 17) hx hb hts inlX2 hown hK hP 2 rfl rfl 13 (by decide) (hts (.fieldLink RX4 190 "VtableTown$State" "hits" "[I") (pl_m 692 (by decide +kernel))) (fun _ h9 => h9) rfl dX4_many_178 ?_
    have hPc := hP.sub (ws' := [(h0, .inr (4, [.ref t, .ref fi, .ref st, .ref mc])), (t, .inr (3, [.int 0, .ref t1, .ref t2, .ref t3, .ref t4, .ref t5, .ref t6, .ref t7, .ref t8, .ref t9]))]) [0, 1] rfl
    refine pn_ci (va_runV (As := [.ref s13]) (rest := []) ⟨hx, hb, hml, hown, hts⟩ (c_X4_sumOfPlaces l D cI cZ cJ cG s.heap.size h0 t fi st mc t1 t2 t3 t4 t5 t6 t7 t8 t9 s13) (cwV 1 hts (pl_V (pl_m 729 (by decide +kernel)) (pl_m 730 (by decide +kernel)) (pl_m 731 (by decide +kernel)) (pl_m 2 (by decide +kernel)) (pl_m 732 (by decide +kernel))) rfl rfl rfl (by decide +kernel) ⟨(Nat.le_of_ble_eq_true rfl), (Nat.le_of_ble_eq_true rfl)⟩) ⟨pn_B_blind, va_recv hK hPc (ci := 4) (q0 := 0) rfl rfl, (pn_B_at hPc hK)⟩ rfl rfl hl.1 rfl (lv_room (Nat.le_of_ble_eq_true rfl)) dX4_many_181 ⟨(Nat.le_of_ble_eq_true rfl), (Nat.le_of_ble_eq_true rfl)⟩) hS hA hP (fun r_10 H locs hw hP hS => ?_)
    have hP : va_P D vwCl [(h0, .inr (4, [.ref t, .ref fi, .ref st, .ref mc])), (t, .inr (3, [.int 0, .ref t1, .ref t2, .ref t3, .ref t4, .ref t5, .ref t6, .ref t7, .ref t8, .ref t9])), (st, .inr (2, [.int 0, .int 0, .long 0, .int 0, .int 0, .ref s5, .ref s6, .ref s7, .ref s8, .ref s9, .ref s10, .ref s11, .ref s12, .ref s13, .ref s14, .ref s15, .ref s16]))] H := hP
    obtain ⟨rfl, hw⟩ := hw
    try simp only [Int32.reduceToInt] at hw
    refine vx_ret ?_
    refine W.widen (k := 1) (n := 6) (Nat.le_of_ble_eq_true rfl) (Nat.le_of_ble_eq_true rfl) ?_
    exact W.iret (v := 0) hx hb hr (fun tz_ ht hW => ⟨⟨0, (), rfl, ⟨rfl, (by first | exact trivial | omega | (simp only [Int32.reduceToInt] at *; omega) | decide)⟩, trivial⟩, hS.F ht⟩) hS.2.2 dX4_many_184
  · refine lv_tableIn (off := 184) (tgt := 185) hx hb dX4_many_1 (by decide) (by decide) (by decide +kernel) (by decide) ?_
    refine lv_aload_n hx hb dX4_many_185 rfl (lv_at hl 0 rfl) ?_
    refine lv_aload_n hx hb dX4_many_186 rfl (lv_at hl 0 rfl) ?_
    refine va_get (D := D) (ci := 4) (v := .ref st) (C := RX4) (T := TX4) (N := 4) hx hb hts inlX4 hown hK hP 0 rfl rfl 2 (by decide) (hts (.fieldLink RX4 28 "VtableTown" "state" "LVtableTown$State;") (pl_m 24 (by decide +kernel))) (fun _ h9 => h9) rfl dX4_many_187 ?_
    refine va_get (D := D) (ci := 2) (v := .ref s14) (C := RX2) (T := TX2) (N := 17) hx hb hts inlX2 hown hK hP 2 rfl rfl 14 (by decide) (hts (.fieldLink RX4 193 "VtableTown$State" "misses" "[I") (pl_m 693 (by decide +kernel))) (fun _ h9 => h9) rfl dX4_many_190 ?_
    have hPc := hP.sub (ws' := [(h0, .inr (4, [.ref t, .ref fi, .ref st, .ref mc])), (t, .inr (3, [.int 0, .ref t1, .ref t2, .ref t3, .ref t4, .ref t5, .ref t6, .ref t7, .ref t8, .ref t9]))]) [0, 1] rfl
    refine pn_ci (va_runV (As := [.ref s14]) (rest := []) ⟨hx, hb, hml, hown, hts⟩ (c_X4_sumOfPlaces l D cI cZ cJ cG s.heap.size h0 t fi st mc t1 t2 t3 t4 t5 t6 t7 t8 t9 s14) (cwV 1 hts (pl_V (pl_m 729 (by decide +kernel)) (pl_m 730 (by decide +kernel)) (pl_m 731 (by decide +kernel)) (pl_m 2 (by decide +kernel)) (pl_m 732 (by decide +kernel))) rfl rfl rfl (by decide +kernel) ⟨(Nat.le_of_ble_eq_true rfl), (Nat.le_of_ble_eq_true rfl)⟩) ⟨pn_B_blind, va_recv hK hPc (ci := 4) (q0 := 0) rfl rfl, (pn_B_at hPc hK)⟩ rfl rfl hl.1 rfl (lv_room (Nat.le_of_ble_eq_true rfl)) dX4_many_193 ⟨(Nat.le_of_ble_eq_true rfl), (Nat.le_of_ble_eq_true rfl)⟩) hS hA hP (fun r_11 H locs hw hP hS => ?_)
    have hP : va_P D vwCl [(h0, .inr (4, [.ref t, .ref fi, .ref st, .ref mc])), (t, .inr (3, [.int 0, .ref t1, .ref t2, .ref t3, .ref t4, .ref t5, .ref t6, .ref t7, .ref t8, .ref t9])), (st, .inr (2, [.int 0, .int 0, .long 0, .int 0, .int 0, .ref s5, .ref s6, .ref s7, .ref s8, .ref s9, .ref s10, .ref s11, .ref s12, .ref s13, .ref s14, .ref s15, .ref s16]))] H := hP
    obtain ⟨rfl, hw⟩ := hw
    try simp only [Int32.reduceToInt] at hw
    refine vx_ret ?_
    refine W.widen (k := 1) (n := 6) (Nat.le_of_ble_eq_true rfl) (Nat.le_of_ble_eq_true rfl) ?_
    exact W.iret (v := 0) hx hb hr (fun tz_ ht hW => ⟨⟨0, (), rfl, ⟨rfl, (by first | exact trivial | omega | (simp only [Int32.reduceToInt] at *; omega) | decide)⟩, trivial⟩, hS.F ht⟩) hS.2.2 dX4_many_196
  · refine lv_tableIn (off := 196) (tgt := 197) hx hb dX4_many_1 (by decide) (by decide) (by decide +kernel) (by decide) ?_
    refine lv_aload_n hx hb dX4_many_197 rfl (lv_at hl 0 rfl) ?_
    refine va_get (D := D) (ci := 4) (v := .ref st) (C := RX4) (T := TX4) (N := 4) hx hb hts inlX4 hown hK hP 0 rfl rfl 2 (by decide) (hts (.fieldLink RX4 28 "VtableTown" "state" "LVtableTown$State;") (pl_m 24 (by decide +kernel))) (fun _ h9 => h9) rfl dX4_many_198 ?_
    refine va_get (D := D) (ci := 2) (v := .int 0) (C := RX2) (T := TX2) (N := 17) hx hb hts inlX2 hown hK hP 2 rfl rfl 1 (by decide) (hts (.fieldLink RX4 219 "VtableTown$State" "runs" "I") (pl_m 718 (by decide +kernel))) (fun _ h9 => h9) rfl dX4_many_201 ?_
    refine vx_ret ?_
    refine W.widen (k := 1) (n := 6) (Nat.le_of_ble_eq_true rfl) (Nat.le_of_ble_eq_true rfl) ?_
    exact W.iret (v := 0) hx hb hr (fun tz_ ht hW => ⟨⟨0, (), rfl, ⟨rfl, (by first | exact trivial | omega | (simp only [Int32.reduceToInt] at *; omega) | decide)⟩, trivial⟩, hS.F ht⟩) hS.2.2 dX4_many_204
  · refine lv_tableIn (off := 204) (tgt := 205) hx hb dX4_many_1 (by decide) (by decide) (by decide +kernel) (by decide) ?_
    refine lv_aload_n hx hb dX4_many_205 rfl (lv_at hl 0 rfl) ?_
    refine va_get (D := D) (ci := 4) (v := .ref st) (C := RX4) (T := TX4) (N := 4) hx hb hts inlX4 hown hK hP 0 rfl rfl 2 (by decide) (hts (.fieldLink RX4 28 "VtableTown" "state" "LVtableTown$State;") (pl_m 24 (by decide +kernel))) (fun _ h9 => h9) rfl dX4_many_206 ?_
    refine va_get (D := D) (ci := 2) (v := .int 0) (C := RX2) (T := TX2) (N := 17) hx hb hts inlX2 hown hK hP 2 rfl rfl 3 (by decide) (hts (.fieldLink RX4 222 "VtableTown$State" "lastCost" "I") (pl_m 719 (by decide +kernel))) (fun _ h9 => h9) rfl dX4_many_209 ?_
    refine vx_ret ?_
    refine W.widen (k := 1) (n := 6) (Nat.le_of_ble_eq_true rfl) (Nat.le_of_ble_eq_true rfl) ?_
    exact W.iret (v := 0) hx hb hr (fun tz_ ht hW => ⟨⟨0, (), rfl, ⟨rfl, (by first | exact trivial | omega | (simp only [Int32.reduceToInt] at *; omega) | decide)⟩, trivial⟩, hS.F ht⟩) hS.2.2 dX4_many_212
  · refine lv_tableIn (off := 212) (tgt := 213) hx hb dX4_many_1 (by decide) (by decide) (by decide +kernel) (by decide) ?_
    refine lv_aload_n hx hb dX4_many_213 rfl (lv_at hl 0 rfl) ?_
    refine va_get (D := D) (ci := 4) (v := .ref st) (C := RX4) (T := TX4) (N := 4) hx hb hts inlX4 hown hK hP 0 rfl rfl 2 (by decide) (hts (.fieldLink RX4 28 "VtableTown" "state" "LVtableTown$State;") (pl_m 24 (by decide +kernel))) (fun _ h9 => h9) rfl dX4_many_214 ?_
    refine va_get (D := D) (ci := 2) (v := .int 0) (C := RX2) (T := TX2) (N := 17) hx hb hts inlX2 hown hK hP 2 rfl rfl 4 (by decide) (hts (.fieldLink RX4 225 "VtableTown$State" "lastSteps" "I") (pl_m 720 (by decide +kernel))) (fun _ h9 => h9) rfl dX4_many_217 ?_
    refine vx_ret ?_
    refine W.widen (k := 1) (n := 6) (Nat.le_of_ble_eq_true rfl) (Nat.le_of_ble_eq_true rfl) ?_
    exact W.iret (v := 0) hx hb hr (fun tz_ ht hW => ⟨⟨0, (), rfl, ⟨rfl, (by first | exact trivial | omega | (simp only [Int32.reduceToInt] at *; omega) | decide)⟩, trivial⟩, hS.F ht⟩) hS.2.2 dX4_many_220
set_option maxHeartbeats 4000000 in
set_option maxRecDepth 100000 in
theorem c_X4_meanCost (l : Launch) (D : va_G) (cI cZ cJ cG : ClassId) (sz : Nat) (h0 : Nat) (t : Nat) (fi : Nat) (st : Nat) (mc : Nat) (s5 : Nat) (s6 : Nat) (s7 : Nat) (s8 : Nat) (s9 : Nat) (s10 : Nat) (s11 : Nat) (s12 : Nat) (s13 : Nat) (s14 : Nat) (s15 : Nat) (s16 : Nat) : Met l yX4_meanCost (pl_h yX4_meanCost cX4_meanCost 1 (some .double)) ({ frames := 0, cells := 0, slots := 0, locals := 0 }) (va_Pc [.ref h0] (pn_B D (pn_Y cI cZ cJ cG) [(h0, .inr (4, [.ref t, .ref fi, .ref st, .ref mc])), (st, .inr (2, [.int 0, .int 0, .long 0, .int 0, .int 0, .ref s5, .ref s6, .ref s7, .ref s8, .ref s9, .ref s10, .ref s11, .ref s12, .ref s13, .ref s14, .ref s15, .ref s16]))] sz)) (va_Qd (fun (r : UInt64) (u : Unit) => (r = FP.dconst0 ∧ True)) (fun _ _ => True) (pn_N sz)) 0 0 (pn_N sz) := by
  refine Met.ofW (cc := cX4_meanCost) (maxL := 1) (ret := (some .double)) (by decide) rfl ?_
  intro p e s m args below meth c s₁ B hml hv
  obtain ⟨rfl, hsz, hP, hK⟩ := hv
  have hx := B.exec
  have hb := B.bytes
  have hr := B.returns
  have hts0 := atoms_spec (ws := pl_h yX4_meanCost cX4_meanCost 1 (some .double)) B.pre
  have hts := fun (w : Cond) (h : w ∈ pw_all) => hts0 w (List.mem_cons_of_mem _ h)
  have hown : s.vm.findClass RX4 = some m.cls := findClass_of_methodNamed B.named
  have hlocks := B.notSynchronized
  subst hsz
  have hA : ∀ q : Nat, s.heap.size ≤ q → pn_N s.heap.size q := fun q h => h
  have hS : va_S (pn_N s.heap.size) s.heap s.heap [] := va_S.rf
  have hl := lv_entry ([.ref h0]) (n := 1) (Nat.le_of_ble_eq_true rfl)
  rw [lg_entry_eq]
  generalize (lg_sl ([.ref h0]) ++ List.replicate (1 - (lg_sl ([.ref h0])).length) Slot.unset).toArray = ls at hl ⊢
  have hl : lv_has ls 1 [(0, .ref h0)] := hl
  refine lv_aload_n hx hb dX4_meanCost_0 rfl (lv_at hl 0 rfl) ?_
  refine va_get (D := D) (ci := 4) (v := .ref st) (C := RX4) (T := TX4) (N := 4) hx hb hts inlX4 hown hK hP 0 rfl rfl 2 (by decide) (hts (.fieldLink RX4 28 "VtableTown" "state" "LVtableTown$State;") (pl_m 24 (by decide +kernel))) (fun _ h9 => h9) rfl dX4_meanCost_1 ?_
  refine va_get (D := D) (ci := 2) (v := .int 0) (C := RX2) (T := TX2) (N := 17) hx hb hts inlX2 hown hK hP 1 rfl rfl 1 (by decide) (hts (.fieldLink RX4 219 "VtableTown$State" "runs" "I") (pl_m 718 (by decide +kernel))) (fun _ h9 => h9) rfl dX4_meanCost_4 ?_
  refine lv_if_ne (tgt := 14) hx hb dX4_meanCost_7 (by decide) (fun h9 => absurd (by decide) h9) (fun _ => ?_)
  refine lv_dconst0 hx hb dX4_meanCost_10 ?_
  refine lv_goto (tgt := 31) hx hb dX4_meanCost_11 (by decide) ?_
  exact W.dret (v := FP.dconst0) hx hb hr (fun tz_ ht hW => ⟨⟨FP.dconst0, (), rfl, ⟨rfl, (by first | exact trivial | omega | (simp only [Int32.reduceToInt] at *; omega) | decide)⟩, trivial⟩, hS.F ht⟩) hS.2.2 dX4_meanCost_31
