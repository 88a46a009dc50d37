theorem dX5_digest_0 : decode cX5_digest 0 = .ok (.aload_n 0, 1) := by decide +kernel
theorem dX5_digest_1 : decode cX5_digest 1 = .ok (.iconst 0, 1) := by decide +kernel
theorem dX5_digest_2 : decode cX5_digest 2 = .ok (.putfield 80, 3) := by decide +kernel
theorem dX5_digest_5 : decode cX5_digest 5 = .ok (.ldc2_w 261, 3) := by decide +kernel
theorem dX5_digest_8 : decode cX5_digest 8 = .ok (.lstore_n 1, 1) := by decide +kernel
theorem dX5_digest_9 : decode cX5_digest 9 = .ok (.iconst 0, 1) := by decide +kernel
theorem dX5_digest_10 : decode cX5_digest 10 = .ok (.istore_n 3, 1) := by decide +kernel
theorem dX5_digest_11 : decode cX5_digest 11 = .ok (.iload_n 3, 1) := by decide +kernel
theorem dX5_digest_12 : decode cX5_digest 12 = .ok (.bipush 14, 2) := by decide +kernel
theorem dX5_digest_14 : decode cX5_digest 14 = .ok (.if_icmp .ge 22, 3) := by decide +kernel
theorem dX5_digest_17 : decode cX5_digest 17 = .ok (.lload_n 1, 1) := by decide +kernel
theorem dX5_digest_18 : decode cX5_digest 18 = .ok (.ldc2_w 263, 3) := by decide +kernel
theorem dX5_digest_21 : decode cX5_digest 21 = .ok (.lmul, 1) := by decide +kernel
theorem dX5_digest_22 : decode cX5_digest 22 = .ok (.aload_n 0, 1) := by decide +kernel
theorem dX5_digest_23 : decode cX5_digest 23 = .ok (.iload_n 3, 1) := by decide +kernel
theorem dX5_digest_24 : decode cX5_digest 24 = .ok (.invokevirtual 250, 3) := by decide +kernel
theorem dX5_digest_27 : decode cX5_digest 27 = .ok (.i2l, 1) := by decide +kernel
theorem dX5_digest_28 : decode cX5_digest 28 = .ok (.ladd, 1) := by decide +kernel
theorem dX5_digest_29 : decode cX5_digest 29 = .ok (.lstore_n 1, 1) := by decide +kernel
theorem dX5_digest_30 : decode cX5_digest 30 = .ok (.iinc 3 1, 3) := by decide +kernel
theorem dX5_digest_33 : decode cX5_digest 33 = .ok (.goto (-22), 3) := by decide +kernel
theorem dX5_digest_36 : decode cX5_digest 36 = .ok (.iconst 0, 1) := by decide +kernel
theorem dX5_digest_37 : decode cX5_digest 37 = .ok (.istore_n 3, 1) := by decide +kernel
theorem dX5_digest_38 : decode cX5_digest 38 = .ok (.iload_n 3, 1) := by decide +kernel
theorem dX5_digest_39 : decode cX5_digest 39 = .ok (.aload_n 0, 1) := by decide +kernel
theorem dX5_digest_40 : decode cX5_digest 40 = .ok (.getfield 84, 3) := by decide +kernel
theorem dX5_digest_43 : decode cX5_digest 43 = .ok (.if_icmp .ge 95, 3) := by decide +kernel
theorem dX5_digest_138 : decode cX5_digest 138 = .ok (.iconst 0, 1) := by decide +kernel
theorem dX5_digest_139 : decode cX5_digest 139 = .ok (.istore_n 3, 1) := by decide +kernel
theorem dX5_digest_140 : decode cX5_digest 140 = .ok (.iload_n 3, 1) := by decide +kernel
theorem dX5_digest_141 : decode cX5_digest 141 = .ok (.sipush 504, 3) := by decide +kernel
theorem dX5_digest_144 : decode cX5_digest 144 = .ok (.if_icmp .ge 48, 3) := by decide +kernel
theorem dX5_digest_147 : decode cX5_digest 147 = .ok (.iconst 0, 1) := by decide +kernel
theorem dX5_digest_148 : decode cX5_digest 148 = .ok (.istore 4, 2) := by decide +kernel
theorem dX5_digest_150 : decode cX5_digest 150 = .ok (.iload 4, 2) := by decide +kernel
theorem dX5_digest_152 : decode cX5_digest 152 = .ok (.bipush 7, 2) := by decide +kernel
theorem dX5_digest_154 : decode cX5_digest 154 = .ok (.if_icmp .ge 32, 3) := by decide +kernel
theorem dX5_digest_157 : decode cX5_digest 157 = .ok (.aload_n 0, 1) := by decide +kernel
theorem dX5_digest_158 : decode cX5_digest 158 = .ok (.iload_n 3, 1) := by decide +kernel
theorem dX5_digest_159 : decode cX5_digest 159 = .ok (.invokevirtual 179, 3) := by decide +kernel
theorem dX5_digest_162 : decode cX5_digest 162 = .ok (.ifCond .eq 24, 3) := by decide +kernel
theorem dX5_digest_186 : decode cX5_digest 186 = .ok (.iinc 3 1, 3) := by decide +kernel
theorem dX5_digest_189 : decode cX5_digest 189 = .ok (.goto (-49), 3) := by decide +kernel
theorem dX5_digest_192 : decode cX5_digest 192 = .ok (.iconst 0, 1) := by decide +kernel
theorem dX5_digest_193 : decode cX5_digest 193 = .ok (.istore_n 3, 1) := by decide +kernel
theorem dX5_digest_194 : decode cX5_digest 194 = .ok (.iload_n 3, 1) := by decide +kernel
theorem dX5_digest_195 : decode cX5_digest 195 = .ok (.aload_n 0, 1) := by decide +kernel
theorem dX5_digest_196 : decode cX5_digest 196 = .ok (.getfield 84, 3) := by decide +kernel
theorem dX5_digest_199 : decode cX5_digest 199 = .ok (.if_icmp .ge 37, 3) := by decide +kernel
theorem dX5_digest_236 : decode cX5_digest 236 = .ok (.lload_n 1, 1) := by decide +kernel
theorem dX5_digest_237 : decode cX5_digest 237 = .ok (.lreturn, 1) := by decide +kernel
theorem dX5_face_0 : decode cX5_face 0 = .ok (.aload_n 0, 1) := by decide +kernel
theorem dX5_face_1 : decode cX5_face 1 = .ok (.iconst 0, 1) := by decide +kernel
theorem dX5_face_2 : decode cX5_face 2 = .ok (.putfield 80, 3) := by decide +kernel
theorem dX5_face_5 : decode cX5_face 5 = .ok (.iload_n 1, 1) := by decide +kernel
theorem dX5_face_6 : decode cX5_face 6 = .ok (.iconst 0, 1) := by decide +kernel
theorem dX5_face_7 : decode cX5_face 7 = .ok (.sipush 4095, 3) := by decide +kernel
theorem dX5_face_10 : decode cX5_face 10 = .ok (.invokestatic 87, 3) := by decide +kernel
theorem dX5_face_13 : decode cX5_face 13 = .ok (.ifCond .ne 9, 3) := by decide +kernel
theorem dX5_face_16 : decode cX5_face 16 = .ok (.aload_n 0, 1) := by decide +kernel
theorem dX5_face_17 : decode cX5_face 17 = .ok (.iconst 1, 1) := by decide +kernel
theorem dX5_face_18 : decode cX5_face 18 = .ok (.invokevirtual 108, 3) := by decide +kernel
theorem dX5_face_21 : decode cX5_face 21 = .ok (.ireturn, 1) := by decide +kernel
theorem dX5_face_22 : decode cX5_face 22 = .ok (.aload_n 0, 1) := by decide +kernel
theorem dX5_face_23 : decode cX5_face 23 = .ok (.getfield 84, 3) := by decide +kernel
theorem dX5_face_26 : decode cX5_face 26 = .ok (.bipush 12, 2) := by decide +kernel
theorem dX5_face_28 : decode cX5_face 28 = .ok (.if_icmp .ne 11, 3) := by decide +kernel
theorem dX5_face_39 : decode cX5_face 39 = .ok (.aload_n 0, 1) := by decide +kernel
theorem dX5_face_40 : decode cX5_face 40 = .ok (.iconst 1, 1) := by decide +kernel
theorem dX5_face_41 : decode cX5_face 41 = .ok (.iconst (-1), 1) := by decide +kernel
theorem dX5_face_42 : decode cX5_face 42 = .ok (.iload_n 1, 1) := by decide +kernel
theorem dX5_face_43 : decode cX5_face 43 = .ok (.invokevirtual 112, 3) := by decide +kernel
theorem dX5_face_46 : decode cX5_face 46 = .ok (.ireturn, 1) := by decide +kernel
theorem dX5_fail_0 : decode cX5_fail 0 = .ok (.aload_n 0, 1) := by decide +kernel
theorem dX5_fail_1 : decode cX5_fail 1 = .ok (.iload_n 1, 1) := by decide +kernel
theorem dX5_fail_2 : decode cX5_fail 2 = .ok (.putfield 172, 3) := by decide +kernel
theorem dX5_fail_5 : decode cX5_fail 5 = .ok (.iload_n 1, 1) := by decide +kernel
theorem dX5_fail_6 : decode cX5_fail 6 = .ok (.ifCond .ne 7, 3) := by decide +kernel
theorem dX5_fail_13 : decode cX5_fail 13 = .ok (.iload_n 1, 1) := by decide +kernel
theorem dX5_fail_14 : decode cX5_fail 14 = .ok (.ireturn, 1) := by decide +kernel
theorem dX5_field_0 : decode cX5_field 0 = .ok (.aload_n 0, 1) := by decide +kernel
theorem dX5_field_1 : decode cX5_field 1 = .ok (.aload_n 0, 1) := by decide +kernel
theorem dX5_field_2 : decode cX5_field 2 = .ok (.iload_n 1, 1) := by decide +kernel
theorem dX5_field_3 : decode cX5_field 3 = .ok (.invokevirtual 116, 3) := by decide +kernel
theorem dX5_field_6 : decode cX5_field 6 = .ok (.ifCond .eq 12, 3) := by decide +kernel
theorem dX5_field_18 : decode cX5_field 18 = .ok (.iconst 1, 1) := by decide +kernel
theorem dX5_field_19 : decode cX5_field 19 = .ok (.goto 30, 3) := by decide +kernel
theorem dX5_field_49 : decode cX5_field 49 = .ok (.putfield 80, 3) := by decide +kernel
theorem dX5_field_52 : decode cX5_field 52 = .ok (.aload_n 0, 1) := by decide +kernel
theorem dX5_field_53 : decode cX5_field 53 = .ok (.getfield 80, 3) := by decide +kernel
theorem dX5_field_56 : decode cX5_field 56 = .ok (.ifCond .le 5, 3) := by decide +kernel
theorem dX5_field_59 : decode cX5_field 59 = .ok (.iconst 0, 1) := by decide +kernel
theorem dX5_field_60 : decode cX5_field 60 = .ok (.ireturn, 1) := by decide +kernel
theorem dX5_finds_0 : decode cX5_finds 0 = .ok (.aload_n 0, 1) := by decide +kernel
theorem dX5_finds_1 : decode cX5_finds 1 = .ok (.iconst 0, 1) := by decide +kernel
theorem dX5_finds_2 : decode cX5_finds 2 = .ok (.putfield 80, 3) := by decide +kernel
theorem dX5_finds_5 : decode cX5_finds 5 = .ok (.aload_n 0, 1) := by decide +kernel
theorem dX5_finds_6 : decode cX5_finds 6 = .ok (.iload_n 1, 1) := by decide +kernel
theorem dX5_finds_7 : decode cX5_finds 7 = .ok (.invokevirtual 241, 3) := by decide +kernel
theorem dX5_finds_10 : decode cX5_finds 10 = .ok (.ifCond .eq 19, 3) := by decide +kernel
theorem dX5_finds_29 : decode cX5_finds 29 = .ok (.aload_n 0, 1) := by decide +kernel
theorem dX5_finds_30 : decode cX5_finds 30 = .ok (.iconst 1, 1) := by decide +kernel
theorem dX5_finds_31 : decode cX5_finds 31 = .ok (.invokevirtual 108, 3) := by decide +kernel
theorem dX5_finds_34 : decode cX5_finds 34 = .ok (.ireturn, 1) := by decide +kernel
theorem dX5_first_0 : decode cX5_first 0 = .ok (.aload_n 0, 1) := by decide +kernel
theorem dX5_first_1 : decode cX5_first 1 = .ok (.iconst 0, 1) := by decide +kernel
theorem dX5_first_2 : decode cX5_first 2 = .ok (.putfield 80, 3) := by decide +kernel
theorem dX5_first_5 : decode cX5_first 5 = .ok (.aload_n 0, 1) := by decide +kernel
theorem dX5_first_6 : decode cX5_first 6 = .ok (.iload_n 1, 1) := by decide +kernel
theorem dX5_first_7 : decode cX5_first 7 = .ok (.invokevirtual 116, 3) := by decide +kernel
theorem dX5_first_10 : decode cX5_first 10 = .ok (.ifCond .ne 9, 3) := by decide +kernel
theorem dX5_first_13 : decode cX5_first 13 = .ok (.aload_n 0, 1) := by decide +kernel
theorem dX5_first_14 : decode cX5_first 14 = .ok (.iconst 1, 1) := by decide +kernel
theorem dX5_first_15 : decode cX5_first 15 = .ok (.invokevirtual 108, 3) := by decide +kernel
theorem dX5_first_18 : decode cX5_first 18 = .ok (.ireturn, 1) := by decide +kernel
theorem dX5_load_0 : decode cX5_load 0 = .ok (.aload_n 0, 1) := by decide +kernel
theorem dX5_load_1 : decode cX5_load 1 = .ok (.aload_n 0, 1) := by decide +kernel
theorem dX5_load_2 : decode cX5_load 2 = .ok (.iload_n 1, 1) := by decide +kernel
theorem dX5_load_3 : decode cX5_load 3 = .ok (.invokevirtual 166, 3) := by decide +kernel
theorem dX5_load_6 : decode cX5_load 6 = .ok (.iload_n 2, 1) := by decide +kernel
theorem dX5_load_7 : decode cX5_load 7 = .ok (.invokevirtual 169, 3) := by decide +kernel
theorem dX5_load_10 : decode cX5_load 10 = .ok (.ireturn, 1) := by decide +kernel
theorem dX5_load__0 : decode cX5_load_ 0 = .ok (.aload_n 0, 1) := by decide +kernel
theorem dX5_load__1 : decode cX5_load_ 1 = .ok (.iconst 0, 1) := by decide +kernel
theorem dX5_load__2 : decode cX5_load_ 2 = .ok (.putfield 80, 3) := by decide +kernel
theorem dX5_load__5 : decode cX5_load_ 5 = .ok (.iload_n 1, 1) := by decide +kernel
theorem dX5_load__6 : decode cX5_load_ 6 = .ok (.invokestatic 127, 3) := by decide +kernel
theorem dX5_load__9 : decode cX5_load_ 9 = .ok (.ifCond .ne 9, 3) := by decide +kernel
theorem dX5_load__12 : decode cX5_load_ 12 = .ok (.aload_n 0, 1) := by decide +kernel
theorem dX5_load__13 : decode cX5_load_ 13 = .ok (.iconst 1, 1) := by decide +kernel
theorem dX5_load__14 : decode cX5_load_ 14 = .ok (.invokevirtual 108, 3) := by decide +kernel
theorem dX5_load__17 : decode cX5_load_ 17 = .ok (.ireturn, 1) := by decide +kernel
theorem dX5_load__18 : decode cX5_load_ 18 = .ok (.aload_n 0, 1) := by decide +kernel
theorem dX5_load__19 : decode cX5_load_ 19 = .ok (.getfield 185, 3) := by decide +kernel
theorem dX5_load__22 : decode cX5_load_ 22 = .ok (.istore_n 2, 1) := by decide +kernel
theorem dX5_load__23 : decode cX5_load_ 23 = .ok (.aload_n 0, 1) := by decide +kernel
theorem dX5_load__24 : decode cX5_load_ 24 = .ok (.iload_n 1, 1) := by decide +kernel
theorem dX5_load__25 : decode cX5_load_ 25 = .ok (.invokevirtual 166, 3) := by decide +kernel
theorem dX5_load__28 : decode cX5_load_ 28 = .ok (.istore_n 3, 1) := by decide +kernel
theorem dX5_load__29 : decode cX5_load_ 29 = .ok (.aload_n 0, 1) := by decide +kernel
theorem dX5_load__30 : decode cX5_load_ 30 = .ok (.iload_n 2, 1) := by decide +kernel
theorem dX5_load__31 : decode cX5_load_ 31 = .ok (.putfield 185, 3) := by decide +kernel
theorem dX5_load__34 : decode cX5_load_ 34 = .ok (.iload_n 3, 1) := by decide +kernel
theorem dX5_load__35 : decode cX5_load_ 35 = .ok (.ireturn, 1) := by decide +kernel
theorem dX5_make_0 : decode cX5_make 0 = .ok (.aload_n 0, 1) := by decide +kernel
theorem dX5_make_1 : decode cX5_make 1 = .ok (.iload_n 1, 1) := by decide +kernel
theorem dX5_make_2 : decode cX5_make 2 = .ok (.iconst 0, 1) := by decide +kernel
theorem dX5_make_3 : decode cX5_make 3 = .ok (.invokevirtual 220, 3) := by decide +kernel
theorem dX5_make_6 : decode cX5_make 6 = .ok (.ifCond .le 5, 3) := by decide +kernel
theorem dX5_make_9 : decode cX5_make 9 = .ok (.iconst 0, 1) := by decide +kernel
theorem dX5_make_10 : decode cX5_make 10 = .ok (.ireturn, 1) := by decide +kernel
theorem dX5_many_0 : decode cX5_many 0 = .ok (.aload_n 0, 1) := by decide +kernel
theorem dX5_many_1 : decode cX5_many 1 = .ok (.iconst 0, 1) := by decide +kernel
theorem dX5_many_2 : decode cX5_many 2 = .ok (.putfield 80, 3) := by decide +kernel
theorem dX5_many_5 : decode cX5_many 5 = .ok (.iload_n 1, 1) := by decide +kernel
theorem dX5_many_6 : decode cX5_many 6 = .ok (.iconst 0, 1) := by decide +kernel
theorem dX5_many_7 : decode cX5_many 7 = .ok (.bipush 13, 2) := by decide +kernel
theorem dX5_many_9 : decode cX5_many 9 = .ok (.invokestatic 87, 3) := by decide +kernel
theorem dX5_many_12 : decode cX5_many 12 = .ok (.ifCond .eq 11, 3) := by decide +kernel
theorem dX5_many_15 : decode cX5_many 15 = .ok (.aload_n 0, 1) := by decide +kernel
theorem dX5_many_16 : decode cX5_many 16 = .ok (.iload_n 1, 1) := by decide +kernel
theorem dX5_many_17 : decode cX5_many 17 = .ok (.invokevirtual 250, 3) := by decide +kernel
theorem dX5_many_20 : decode cX5_many 20 = .ok (.goto 8, 3) := by decide +kernel
theorem dX5_many_23 : decode cX5_many 23 = .ok (.aload_n 0, 1) := by decide +kernel
theorem dX5_many_24 : decode cX5_many 24 = .ok (.iconst 1, 1) := by decide +kernel
theorem dX5_many_25 : decode cX5_many 25 = .ok (.invokevirtual 108, 3) := by decide +kernel
theorem dX5_many_28 : decode cX5_many 28 = .ok (.ireturn, 1) := by decide +kernel
theorem dX5_meanCost_0 : decode cX5_meanCost 0 = .ok (.aload_n 0, 1) := by decide +kernel
theorem dX5_meanCost_1 : decode cX5_meanCost 1 = .ok (.iconst 0, 1) := by decide +kernel
theorem dX5_meanCost_2 : decode cX5_meanCost 2 = .ok (.putfield 80, 3) := by decide +kernel
theorem dX5_meanCost_5 : decode cX5_meanCost 5 = .ok (.aload_n 0, 1) := by decide +kernel
theorem dX5_meanCost_6 : decode cX5_meanCost 6 = .ok (.getfield 102, 3) := by decide +kernel
theorem dX5_meanCost_9 : decode cX5_meanCost 9 = .ok (.ifCond .ne 7, 3) := by decide +kernel
theorem dX5_meanCost_12 : decode cX5_meanCost 12 = .ok (.dconst 0, 1) := by decide +kernel
theorem dX5_meanCost_13 : decode cX5_meanCost 13 = .ok (.goto 14, 3) := by decide +kernel
theorem dX5_meanCost_27 : decode cX5_meanCost 27 = .ok (.dreturn, 1) := by decide +kernel
theorem dX5_method_0 : decode cX5_method 0 = .ok (.aload_n 0, 1) := by decide +kernel
theorem dX5_method_1 : decode cX5_method 1 = .ok (.iconst 0, 1) := by decide +kernel
theorem dX5_method_2 : decode cX5_method 2 = .ok (.putfield 80, 3) := by decide +kernel
theorem dX5_method_5 : decode cX5_method 5 = .ok (.aload_n 0, 1) := by decide +kernel
theorem dX5_method_6 : decode cX5_method 6 = .ok (.iload_n 1, 1) := by decide +kernel
theorem dX5_method_7 : decode cX5_method 7 = .ok (.invokevirtual 116, 3) := by decide +kernel
theorem dX5_method_10 : decode cX5_method 10 = .ok (.ifCond .eq 12, 3) := by decide +kernel
theorem dX5_method_22 : decode cX5_method 22 = .ok (.aload_n 0, 1) := by decide +kernel
theorem dX5_method_23 : decode cX5_method 23 = .ok (.iconst 1, 1) := by decide +kernel
theorem dX5_method_24 : decode cX5_method 24 = .ok (.invokevirtual 108, 3) := by decide +kernel
theorem dX5_method_27 : decode cX5_method 27 = .ok (.ireturn, 1) := by decide +kernel
theorem dX5_no_0 : decode cX5_no 0 = .ok (.aload_n 0, 1) := by decide +kernel
theorem dX5_no_1 : decode cX5_no 1 = .ok (.iload_n 1, 1) := by decide +kernel
theorem dX5_no_2 : decode cX5_no 2 = .ok (.putfield 80, 3) := by decide +kernel
theorem dX5_no_5 : decode cX5_no 5 = .ok (.iconst 0, 1) := by decide +kernel
theorem dX5_no_6 : decode cX5_no 6 = .ok (.ireturn, 1) := by decide +kernel
theorem dX5_ofClass_0 : decode cX5_ofClass 0 = .ok (.aload_n 0, 1) := by decide +kernel
theorem dX5_ofClass_1 : decode cX5_ofClass 1 = .ok (.iconst 0, 1) := by decide +kernel
theorem dX5_ofClass_2 : decode cX5_ofClass 2 = .ok (.putfield 80, 3) := by decide +kernel
theorem dX5_ofClass_5 : decode cX5_ofClass 5 = .ok (.aload_n 0, 1) := by decide +kernel
theorem dX5_ofClass_6 : decode cX5_ofClass 6 = .ok (.iload_n 1, 1) := by decide +kernel
theorem dX5_ofClass_7 : decode cX5_ofClass 7 = .ok (.invokevirtual 116, 3) := by decide +kernel
theorem dX5_ofClass_10 : decode cX5_ofClass 10 = .ok (.ifCond .ne 9, 3) := by decide +kernel
theorem dX5_ofClass_13 : decode cX5_ofClass 13 = .ok (.aload_n 0, 1) := by decide +kernel
theorem dX5_ofClass_14 : decode cX5_ofClass 14 = .ok (.iconst 1, 1) := by decide +kernel
theorem dX5_ofClass_15 : decode cX5_ofClass 15 = .ok (.invokevirtual 108, 3) := by decide +kernel
theorem dX5_ofClass_18 : decode cX5_ofClass 18 = .ok (.ireturn, 1) := by decide +kernel
theorem dX5_ofPlace_0 : decode cX5_ofPlace 0 = .ok (.aload_n 0, 1) := by decide +kernel
theorem dX5_ofPlace_1 : decode cX5_ofPlace 1 = .ok (.iconst 0, 1) := by decide +kernel
theorem dX5_ofPlace_2 : decode cX5_ofPlace 2 = .ok (.putfield 80, 3) := by decide +kernel
theorem dX5_ofPlace_5 : decode cX5_ofPlace 5 = .ok (.aload_n 0, 1) := by decide +kernel
theorem dX5_ofPlace_6 : decode cX5_ofPlace 6 = .ok (.iload_n 1, 1) := by decide +kernel
theorem dX5_ofPlace_7 : decode cX5_ofPlace 7 = .ok (.invokevirtual 116, 3) := by decide +kernel
theorem dX5_ofPlace_10 : decode cX5_ofPlace 10 = .ok (.ifCond .eq 34, 3) := by decide +kernel
theorem dX5_ofPlace_44 : decode cX5_ofPlace 44 = .ok (.aload_n 0, 1) := by decide +kernel
theorem dX5_ofPlace_45 : decode cX5_ofPlace 45 = .ok (.iconst 1, 1) := by decide +kernel
theorem dX5_ofPlace_46 : decode cX5_ofPlace 46 = .ok (.invokevirtual 108, 3) := by decide +kernel
theorem dX5_ofPlace_49 : decode cX5_ofPlace 49 = .ok (.ireturn, 1) := by decide +kernel
theorem dX5_open_0 : decode cX5_open 0 = .ok (.aload_n 0, 1) := by decide +kernel
theorem dX5_open_1 : decode cX5_open 1 = .ok (.iconst 0, 1) := by decide +kernel
theorem dX5_open_2 : decode cX5_open 2 = .ok (.putfield 80, 3) := by decide +kernel
theorem dX5_open_5 : decode cX5_open 5 = .ok (.aload_n 0, 1) := by decide +kernel
theorem dX5_open_6 : decode cX5_open 6 = .ok (.iload_n 1, 1) := by decide +kernel
theorem dX5_open_7 : decode cX5_open 7 = .ok (.invokevirtual 116, 3) := by decide +kernel
theorem dX5_open_10 : decode cX5_open 10 = .ok (.ifCond .eq 12, 3) := by decide +kernel
theorem dX5_open_22 : decode cX5_open 22 = .ok (.aload_n 0, 1) := by decide +kernel
theorem dX5_open_23 : decode cX5_open 23 = .ok (.iconst 1, 1) := by decide +kernel
theorem dX5_open_24 : decode cX5_open 24 = .ok (.invokevirtual 108, 3) := by decide +kernel
theorem dX5_open_27 : decode cX5_open 27 = .ok (.ireturn, 1) := by decide +kernel
theorem dX5_plain_0 : decode cX5_plain 0 = .ok (.aload_n 0, 1) := by decide +kernel
theorem dX5_plain_1 : decode cX5_plain 1 = .ok (.iconst 0, 1) := by decide +kernel
theorem dX5_plain_2 : decode cX5_plain 2 = .ok (.putfield 80, 3) := by decide +kernel
theorem dX5_plain_5 : decode cX5_plain 5 = .ok (.iload_n 1, 1) := by decide +kernel
theorem dX5_plain_6 : decode cX5_plain 6 = .ok (.iconst (-1), 1) := by decide +kernel
theorem dX5_plain_7 : decode cX5_plain 7 = .ok (.bipush 11, 2) := by decide +kernel
theorem dX5_plain_9 : decode cX5_plain 9 = .ok (.invokestatic 87, 3) := by decide +kernel
theorem dX5_plain_12 : decode cX5_plain 12 = .ok (.ifCond .eq 22, 3) := by decide +kernel
theorem dX5_plain_15 : decode cX5_plain 15 = .ok (.iload_n 1, 1) := by decide +kernel
theorem dX5_plain_16 : decode cX5_plain 16 = .ok (.aload_n 0, 1) := by decide +kernel
theorem dX5_plain_17 : decode cX5_plain 17 = .ok (.getfield 84, 3) := by decide +kernel
theorem dX5_plain_20 : decode cX5_plain 20 = .ok (.if_icmp .eq 14, 3) := by decide +kernel
theorem dX5_plain_23 : decode cX5_plain 23 = .ok (.iload_n 2, 1) := by decide +kernel
theorem dX5_plain_24 : decode cX5_plain 24 = .ok (.iconst 0, 1) := by decide +kernel
theorem dX5_plain_25 : decode cX5_plain 25 = .ok (.sipush 4095, 3) := by decide +kernel
theorem dX5_plain_28 : decode cX5_plain 28 = .ok (.invokestatic 87, 3) := by decide +kernel
theorem dX5_plain_31 : decode cX5_plain 31 = .ok (.ifCond .ne 9, 3) := by decide +kernel
theorem dX5_plain_34 : decode cX5_plain 34 = .ok (.aload_n 0, 1) := by decide +kernel
theorem dX5_plain_35 : decode cX5_plain 35 = .ok (.iconst 1, 1) := by decide +kernel
theorem dX5_plain_36 : decode cX5_plain 36 = .ok (.invokevirtual 108, 3) := by decide +kernel
theorem dX5_plain_39 : decode cX5_plain 39 = .ok (.ireturn, 1) := by decide +kernel
theorem dX5_plain_40 : decode cX5_plain 40 = .ok (.aload_n 0, 1) := by decide +kernel
theorem dX5_plain_41 : decode cX5_plain 41 = .ok (.getfield 84, 3) := by decide +kernel
theorem dX5_plain_44 : decode cX5_plain 44 = .ok (.bipush 12, 2) := by decide +kernel
theorem dX5_plain_46 : decode cX5_plain 46 = .ok (.if_icmp .ne 11, 3) := by decide +kernel
theorem dX5_plain_57 : decode cX5_plain 57 = .ok (.aload_n 0, 1) := by decide +kernel
theorem dX5_plain_58 : decode cX5_plain 58 = .ok (.iconst 0, 1) := by decide +kernel
theorem dX5_plain_59 : decode cX5_plain 59 = .ok (.iload_n 1, 1) := by decide +kernel
theorem dX5_plain_60 : decode cX5_plain 60 = .ok (.iload_n 2, 1) := by decide +kernel
theorem dX5_plain_61 : decode cX5_plain 61 = .ok (.invokevirtual 112, 3) := by decide +kernel
theorem dX5_plain_64 : decode cX5_plain 64 = .ok (.ireturn, 1) := by decide +kernel
theorem dX5_run_0 : decode cX5_run 0 = .ok (.aload_n 0, 1) := by decide +kernel
theorem dX5_run_1 : decode cX5_run 1 = .ok (.iconst 0, 1) := by decide +kernel
theorem dX5_run_2 : decode cX5_run 2 = .ok (.putfield 80, 3) := by decide +kernel
theorem dX5_run_5 : decode cX5_run 5 = .ok (.iload_n 1, 1) := by decide +kernel
theorem dX5_run_6 : decode cX5_run 6 = .ok (.invokestatic 127, 3) := by decide +kernel
theorem dX5_run_9 : decode cX5_run 9 = .ok (.ifCond .eq 19, 3) := by decide +kernel
theorem dX5_run_12 : decode cX5_run 12 = .ok (.iload_n 2, 1) := by decide +kernel
theorem dX5_run_13 : decode cX5_run 13 = .ok (.invokestatic 124, 3) := by decide +kernel
theorem dX5_run_16 : decode cX5_run 16 = .ok (.ifCond .eq 12, 3) := by decide +kernel
theorem dX5_run_19 : decode cX5_run 19 = .ok (.aload_n 0, 1) := by decide +kernel
theorem dX5_run_20 : decode cX5_run 20 = .ok (.iload_n 1, 1) := by decide +kernel
theorem dX5_run_21 : decode cX5_run 21 = .ok (.iload_n 2, 1) := by decide +kernel
theorem dX5_run_22 : decode cX5_run 22 = .ok (.invokevirtual 235, 3) := by decide +kernel
theorem dX5_run_25 : decode cX5_run 25 = .ok (.goto 8, 3) := by decide +kernel
theorem dX5_run_28 : decode cX5_run 28 = .ok (.aload_n 0, 1) := by decide +kernel
theorem dX5_run_29 : decode cX5_run 29 = .ok (.iconst 1, 1) := by decide +kernel
theorem dX5_run_30 : decode cX5_run 30 = .ok (.invokevirtual 108, 3) := by decide +kernel
theorem dX5_run_33 : decode cX5_run 33 = .ok (.ireturn, 1) := by decide +kernel
theorem dX5_runNow_0 : decode cX5_runNow 0 = .ok (.aload_n 0, 1) := by decide +kernel
theorem dX5_runNow_1 : decode cX5_runNow 1 = .ok (.iconst 0, 1) := by decide +kernel
theorem dX5_runNow_2 : decode cX5_runNow 2 = .ok (.putfield 185, 3) := by decide +kernel
theorem dX5_runNow_5 : decode cX5_runNow 5 = .ok (.aload_n 0, 1) := by decide +kernel
theorem dX5_runNow_6 : decode cX5_runNow 6 = .ok (.iconst 0, 1) := by decide +kernel
theorem dX5_runNow_7 : decode cX5_runNow 7 = .ok (.putfield 191, 3) := by decide +kernel
theorem dX5_runNow_10 : decode cX5_runNow 10 = .ok (.aload_n 0, 1) := by decide +kernel
theorem dX5_runNow_11 : decode cX5_runNow 11 = .ok (.iconst 0, 1) := by decide +kernel
theorem dX5_runNow_12 : decode cX5_runNow 12 = .ok (.putfield 172, 3) := by decide +kernel
theorem dX5_runNow_15 : decode cX5_runNow 15 = .ok (.aload_n 0, 1) := by decide +kernel
theorem dX5_runNow_16 : decode cX5_runNow 16 = .ok (.iconst 0, 1) := by decide +kernel
theorem dX5_runNow_17 : decode cX5_runNow 17 = .ok (.putfield 188, 3) := by decide +kernel
theorem dX5_runNow_20 : decode cX5_runNow 20 = .ok (.aload_n 0, 1) := by decide +kernel
theorem dX5_runNow_21 : decode cX5_runNow 21 = .ok (.iload_n 1, 1) := by decide +kernel
theorem dX5_runNow_22 : decode cX5_runNow 22 = .ok (.iload_n 2, 1) := by decide +kernel
theorem dX5_runNow_23 : decode cX5_runNow 23 = .ok (.invokevirtual 217, 3) := by decide +kernel
theorem dX5_runNow_26 : decode cX5_runNow 26 = .ok (.istore_n 3, 1) := by decide +kernel
theorem dX5_runNow_27 : decode cX5_runNow 27 = .ok (.aload_n 0, 1) := by decide +kernel
theorem dX5_runNow_28 : decode cX5_runNow 28 = .ok (.dup, 1) := by decide +kernel
theorem dX5_runNow_29 : decode cX5_runNow 29 = .ok (.getfield 102, 3) := by decide +kernel
theorem dX5_runNow_32 : decode cX5_runNow 32 = .ok (.iconst 1, 1) := by decide +kernel
theorem dX5_runNow_33 : decode cX5_runNow 33 = .ok (.iadd, 1) := by decide +kernel
theorem dX5_runNow_34 : decode cX5_runNow 34 = .ok (.putfield 102, 3) := by decide +kernel
theorem dX5_runNow_37 : decode cX5_runNow 37 = .ok (.aload_n 0, 1) := by decide +kernel
theorem dX5_runNow_38 : decode cX5_runNow 38 = .ok (.dup, 1) := by decide +kernel
theorem dX5_runNow_39 : decode cX5_runNow 39 = .ok (.getfield 105, 3) := by decide +kernel
theorem dX5_runNow_42 : decode cX5_runNow 42 = .ok (.aload_n 0, 1) := by decide +kernel
theorem dX5_runNow_43 : decode cX5_runNow 43 = .ok (.getfield 185, 3) := by decide +kernel
theorem dX5_runNow_46 : decode cX5_runNow 46 = .ok (.iadd, 1) := by decide +kernel
theorem dX5_runNow_47 : decode cX5_runNow 47 = .ok (.putfield 105, 3) := by decide +kernel
theorem dX5_runNow_50 : decode cX5_runNow 50 = .ok (.aload_n 0, 1) := by decide +kernel
theorem dX5_runNow_51 : decode cX5_runNow 51 = .ok (.getfield 172, 3) := by decide +kernel
theorem dX5_runNow_54 : decode cX5_runNow 54 = .ok (.ifCond .ne 7, 3) := by decide +kernel
theorem dX5_runNow_61 : decode cX5_runNow 61 = .ok (.sipush (-10000), 3) := by decide +kernel
theorem dX5_runNow_64 : decode cX5_runNow 64 = .ok (.aload_n 0, 1) := by decide +kernel
theorem dX5_runNow_65 : decode cX5_runNow 65 = .ok (.getfield 172, 3) := by decide +kernel
theorem dX5_runNow_68 : decode cX5_runNow 68 = .ok (.isub, 1) := by decide +kernel
theorem dX5_runNow_69 : decode cX5_runNow 69 = .ok (.ireturn, 1) := by decide +kernel
theorem dX5_slot_0 : decode cX5_slot 0 = .ok (.aload_n 0, 1) := by decide +kernel
theorem dX5_slot_1 : decode cX5_slot 1 = .ok (.iconst 0, 1) := by decide +kernel
theorem dX5_slot_2 : decode cX5_slot 2 = .ok (.putfield 80, 3) := by decide +kernel
theorem dX5_slot_5 : decode cX5_slot 5 = .ok (.aload_n 0, 1) := by decide +kernel
theorem dX5_slot_6 : decode cX5_slot 6 = .ok (.iload_n 1, 1) := by decide +kernel
theorem dX5_slot_7 : decode cX5_slot 7 = .ok (.invokevirtual 241, 3) := by decide +kernel
theorem dX5_slot_10 : decode cX5_slot 10 = .ok (.ifCond .eq 22, 3) := by decide +kernel
theorem dX5_slot_32 : decode cX5_slot 32 = .ok (.aload_n 0, 1) := by decide +kernel
theorem dX5_slot_33 : decode cX5_slot 33 = .ok (.iconst 1, 1) := by decide +kernel
theorem dX5_slot_34 : decode cX5_slot 34 = .ok (.invokevirtual 108, 3) := by decide +kernel
theorem dX5_slot_37 : decode cX5_slot 37 = .ok (.ireturn, 1) := by decide +kernel
theorem dX5_step_0 : decode cX5_step 0 = .ok (.aload_n 0, 1) := by decide +kernel
theorem dX5_step_1 : decode cX5_step 1 = .ok (.iconst 0, 1) := by decide +kernel
theorem dX5_step_2 : decode cX5_step 2 = .ok (.putfield 80, 3) := by decide +kernel
theorem dX5_step_5 : decode cX5_step 5 = .ok (.aload_n 0, 1) := by decide +kernel
theorem dX5_step_6 : decode cX5_step 6 = .ok (.iload_n 1, 1) := by decide +kernel
theorem dX5_step_7 : decode cX5_step 7 = .ok (.invokevirtual 116, 3) := by decide +kernel
theorem dX5_step_10 : decode cX5_step 10 = .ok (.ifCond .eq 12, 3) := by decide +kernel
theorem dX5_step_22 : decode cX5_step 22 = .ok (.aload_n 0, 1) := by decide +kernel
theorem dX5_step_23 : decode cX5_step 23 = .ok (.iconst 1, 1) := by decide +kernel
theorem dX5_step_24 : decode cX5_step 24 = .ok (.invokevirtual 108, 3) := by decide +kernel
theorem dX5_step_27 : decode cX5_step 27 = .ok (.ireturn, 1) := by decide +kernel
theorem dX5_tell_0 : decode cX5_tell 0 = .ok (.aload_n 0, 1) := by decide +kernel
theorem dX5_tell_1 : decode cX5_tell 1 = .ok (.dup, 1) := by decide +kernel
theorem dX5_tell_2 : decode cX5_tell 2 = .ok (.getfield 84, 3) := by decide +kernel
theorem dX5_tell_5 : decode cX5_tell 5 = .ok (.dup_x1, 1) := by decide +kernel
theorem dX5_tell_6 : decode cX5_tell 6 = .ok (.iconst 1, 1) := by decide +kernel
theorem dX5_tell_7 : decode cX5_tell 7 = .ok (.iadd, 1) := by decide +kernel
theorem dX5_tell_8 : decode cX5_tell 8 = .ok (.putfield 84, 3) := by decide +kernel
theorem dX5_tell_11 : decode cX5_tell 11 = .ok (.istore 4, 2) := by decide +kernel
theorem dX5_tell_13 : decode cX5_tell 13 = .ok (.aload_n 0, 1) := by decide +kernel
theorem dX5_tell_14 : decode cX5_tell 14 = .ok (.getfield 9, 3) := by decide +kernel
theorem dX5_tell_17 : decode cX5_tell 17 = .ok (.iload 4, 2) := by decide +kernel
theorem dX5_tell_19 : decode cX5_tell 19 = .ok (.iload_n 1, 1) := by decide +kernel
theorem dX5_tell_20 : decode cX5_tell 20 = .ok (.bastore, 1) := by decide +kernel
theorem dX5_tell_21 : decode cX5_tell 21 = .ok (.aload_n 0, 1) := by decide +kernel
theorem dX5_tell_22 : decode cX5_tell 22 = .ok (.getfield 16, 3) := by decide +kernel
theorem dX5_tell_25 : decode cX5_tell 25 = .ok (.iload 4, 2) := by decide +kernel
theorem dX5_tell_27 : decode cX5_tell 27 = .ok (.iload_n 2, 1) := by decide +kernel
theorem dX5_tell_28 : decode cX5_tell 28 = .ok (.iastore, 1) := by decide +kernel
theorem dX5_tell_29 : decode cX5_tell 29 = .ok (.aload_n 0, 1) := by decide +kernel
theorem dX5_tell_30 : decode cX5_tell 30 = .ok (.getfield 20, 3) := by decide +kernel
theorem dX5_tell_33 : decode cX5_tell 33 = .ok (.iload 4, 2) := by decide +kernel
theorem dX5_tell_35 : decode cX5_tell 35 = .ok (.iload_n 3, 1) := by decide +kernel
theorem dX5_tell_36 : decode cX5_tell 36 = .ok (.iastore, 1) := by decide +kernel
theorem dX5_tell_37 : decode cX5_tell 37 = .ok (.aload_n 0, 1) := by decide +kernel
theorem dX5_tell_38 : decode cX5_tell 38 = .ok (.getfield 41, 3) := by decide +kernel
theorem dX5_tell_41 : decode cX5_tell 41 = .ok (.iload 4, 2) := by decide +kernel
theorem dX5_tell_43 : decode cX5_tell 43 = .ok (.iconst (-1), 1) := by decide +kernel
theorem dX5_tell_44 : decode cX5_tell 44 = .ok (.iastore, 1) := by decide +kernel
theorem dX5_tell_45 : decode cX5_tell 45 = .ok (.iload 4, 2) := by decide +kernel
theorem dX5_tell_47 : decode cX5_tell 47 = .ok (.ireturn, 1) := by decide +kernel
set_option maxHeartbeats 4000000 in
set_option maxRecDepth 100000 in
theorem c_X5_no (l : Launch) (D : va_G) (cI cZ cJ cG : ClassId) (sz : Nat) (h0 : Nat) (a2 : Nat) (a3 : Nat) (a4 : Nat) (a5 : Nat) (a6 : Nat) (a7 : Nat) (a8 : Nat) (a9 : Nat) (a10 : Nat) (a11 : Nat) (a12 : Nat) (a13 : Nat) (a14 : Nat) (a15 : Nat) (a16 : Nat) (a17 : Nat) (a18 : Nat) (a19 : Nat) (a20 : Nat) (a21 : Nat) (a22 : Nat) (a23 : Nat) (a31 : Nat) (th : Int32) (p0 : Int32) : Met l yX5_no (pl_h yX5_no cX5_no 2 (some .int)) ({ frames := 0, cells := 0, slots := 0, locals := 0 }) (va_Pc [.ref h0, .int p0] (pn_M D (pn_Y cI cZ cJ cG) [(h0, .inr (5, [.int th, .int 0, .ref a2, .ref a3, .ref a4, .ref a5, .ref a6, .ref a7, .ref a8, .ref a9, .ref a10, .ref a11, .ref a12, .ref a13, .ref a14, .ref a15, .ref a16, .ref a17, .ref a18, .ref a19, .ref a20, .ref a21, .ref a22, .ref a23, .int 0, .int 0, .int 0, .int 0, .int 0, .int 0, .int 0, .ref a31]))] sz)) (va_Qi (fun (r : Int32) (u : Unit) => (r = 0 ∧ True)) (fun u tz_ => va_P D vwCl [(h0, .inr (5, [.int p0, .int 0, .ref a2, .ref a3, .ref a4, .ref a5, .ref a6, .ref a7, .ref a8, .ref a9, .ref a10, .ref a11, .ref a12, .ref a13, .ref a14, .ref a15, .ref a16, .ref a17, .ref a18, .ref a19, .ref a20, .ref a21, .ref a22, .ref a23, .int 0, .int 0, .int 0, .int 0, .int 0, .int 0, .int 0, .ref a31]))] tz_.heap ∧ va_D (va_A [(h0, .inr (5, [.int th, .int 0, .ref a2, .ref a3, .ref a4, .ref a5, .ref a6, .ref a7, .ref a8, .ref a9, .ref a10, .ref a11, .ref a12, .ref a13, .ref a14, .ref a15, .ref a16, .ref a17, .ref a18, .ref a19, .ref a20, .ref a21, .ref a22, .ref a23, .int 0, .int 0, .int 0, .int 0, .int 0, .int 0, .int 0, .ref a31]))] sz) [(h0, .inr (5, [.int p0, .int 0, .ref a2, .ref a3, .ref a4, .ref a5, .ref a6, .ref a7, .ref a8, .ref a9, .ref a10, .ref a11, .ref a12, .ref a13, .ref a14, .ref a15, .ref a16, .ref a17, .ref a18, .ref a19, .ref a20, .ref a21, .ref a22, .ref a23, .int 0, .int 0, .int 0, .int 0, .int 0, .int 0, .int 0, .ref a31]))]) (va_A [(h0, .inr (5, [.int th, .int 0, .ref a2, .ref a3, .ref a4, .ref a5, .ref a6, .ref a7, .ref a8, .ref a9, .ref a10, .ref a11, .ref a12, .ref a13, .ref a14, .ref a15, .ref a16, .ref a17, .ref a18, .ref a19, .ref a20, .ref a21, .ref a22, .ref a23, .int 0, .int 0, .int 0, .int 0, .int 0, .int 0, .int 0, .ref a31]))] sz)) 0 0 (va_A [(h0, .inr (5, [.int th, .int 0, .ref a2, .ref a3, .ref a4, .ref a5, .ref a6, .ref a7, .ref a8, .ref a9, .ref a10, .ref a11, .ref a12, .ref a13, .ref a14, .ref a15, .ref a16, .ref a17, .ref a18, .ref a19, .ref a20, .ref a21, .ref a22, .ref a23, .int 0, .int 0, .int 0, .int 0, .int 0, .int 0, .int 0, .ref a31]))] sz) := by
  refine Met.ofW (cc := cX5_no) (maxL := 2) (ret := (some .int)) (by decide) rfl ?_
  intro p e s m args below meth c s₁ B hml hv
  obtain ⟨rfl, hsz, hP, hK, hD0⟩ := hv
  have hx := B.exec
  have hb := B.bytes
  have hr := B.returns
  have hts0 := atoms_spec (ws := pl_h yX5_no cX5_no 2 (some .int)) B.pre
  have hts := fun (w : Cond) (h : w ∈ pw_all) => hts0 w (List.mem_cons_of_mem _ h)
  have hown : s.vm.findClass RX5 = some m.cls := findClass_of_methodNamed B.named
  have hlocks := B.notSynchronized
  subst hsz
  have hD := hD0.self (sz := s.heap.size)
  generalize hAe : va_A [(h0, .inr (5, [.int th, .int 0, .ref a2, .ref a3, .ref a4, .ref a5, .ref a6, .ref a7, .ref a8, .ref a9, .ref a10, .ref a11, .ref a12, .ref a13, .ref a14, .ref a15, .ref a16, .ref a17, .ref a18, .ref a19, .ref a20, .ref a21, .ref a22, .ref a23, .int 0, .int 0, .int 0, .int 0, .int 0, .int 0, .int 0, .ref a31]))] s.heap.size = A at hD ⊢
  have hA : ∀ q : Nat, s.heap.size ≤ q → A q := fun q h => by rw [← hAe]; exact Or.inr h
  have hS : va_S A s.heap s.heap [] := va_S.rf
  have hl := lv_entry ([.ref h0, .int p0]) (n := 2) (Nat.le_of_ble_eq_true rfl)
  rw [lg_entry_eq]
  generalize (lg_sl ([.ref h0, .int p0]) ++ List.replicate (2 - (lg_sl ([.ref h0, .int p0])).length) Slot.unset).toArray = ls at hl ⊢
  have hl : lv_has ls 2 [(0, .ref h0), (1, .int p0)] := hl
  refine lv_aload_n hx hb dX5_no_0 rfl (lv_at hl 0 rfl) ?_
  refine lv_iload_n hx hb dX5_no_1 rfl (lv_at hl 1 rfl) ?_
  refine va_put (D := D) (ci := 5) (v := .int p0) (ty := .int) (C := RX5) (T := TX5) (N := 32) hx hb hts inlX5 tyX5 tyX5_ok nmX5 hown hK hP hD hS 0 rfl rfl 0 (by decide) (hts (.fieldLink RX5 80 "VtableTownModel" "thrown" "I") (pl_m 137 (by decide +kernel))) (fun _ h9 => h9) rfl (by decide +kernel) rfl rfl (Nat.le_of_ble_eq_true rfl) dX5_no_2 (fun H locs hP hD hS => ?_)
  have hP : va_P D vwCl [(h0, .inr (5, [.int p0, .int 0, .ref a2, .ref a3, .ref a4, .ref a5, .ref a6, .ref a7, .ref a8, .ref a9, .ref a10, .ref a11, .ref a12, .ref a13, .ref a14, .ref a15, .ref a16, .ref a17, .ref a18, .ref a19, .ref a20, .ref a21, .ref a22, .ref a23, .int 0, .int 0, .int 0, .int 0, .int 0, .int 0, .int 0, .ref a31]))] H := hP
  have hD : va_D (A) [(h0, .inr (5, [.int p0, .int 0, .ref a2, .ref a3, .ref a4, .ref a5, .ref a6, .ref a7, .ref a8, .ref a9, .ref a10, .ref a11, .ref a12, .ref a13, .ref a14, .ref a15, .ref a16, .ref a17, .ref a18, .ref a19, .ref a20, .ref a21, .ref a22, .ref a23, .int 0, .int 0, .int 0, .int 0, .int 0, .int 0, .int 0, .ref a31]))] := hD
  refine lv_iconst (v := 0) hx hb dX5_no_5 (by decide) ?_
  have hP9 := hP.sub (ws' := [(h0, .inr (5, [.int p0, .int 0, .ref a2, .ref a3, .ref a4, .ref a5, .ref a6, .ref a7, .ref a8, .ref a9, .ref a10, .ref a11, .ref a12, .ref a13, .ref a14, .ref a15, .ref a16, .ref a17, .ref a18, .ref a19, .ref a20, .ref a21, .ref a22, .ref a23, .int 0, .int 0, .int 0, .int 0, .int 0, .int 0, .int 0, .ref a31]))]) [0] rfl
  have hD9 := hD.sub (ws' := [(h0, .inr (5, [.int p0, .int 0, .ref a2, .ref a3, .ref a4, .ref a5, .ref a6, .ref a7, .ref a8, .ref a9, .ref a10, .ref a11, .ref a12, .ref a13, .ref a14, .ref a15, .ref a16, .ref a17, .ref a18, .ref a19, .ref a20, .ref a21, .ref a22, .ref a23, .int 0, .int 0, .int 0, .int 0, .int 0, .int 0, .int 0, .ref a31]))]) [0] (by decide) rfl
  exact W.iret (v := 0) hx hb hr (fun tz_ ht hW => ⟨⟨0, (), rfl, ⟨rfl, (by first | exact trivial | omega | (simp only [Int32.reduceToInt] at *; omega) | decide)⟩, (by rw [ht]; exact hP9), hD9⟩, hS.F ht⟩) hS.2.2 dX5_no_6
set_option maxHeartbeats 4000000 in
set_option maxRecDepth 100000 in
theorem c_X5_tell (l : Launch) (D : va_G) (cI cZ cJ cG : ClassId) (sz : Nat) (h0 : Nat) (a2 : Nat) (a3 : Nat) (a4 : Nat) (a5 : Nat) (a6 : Nat) (a7 : Nat) (a8 : Nat) (a9 : Nat) (a10 : Nat) (a11 : Nat) (a12 : Nat) (a13 : Nat) (a14 : Nat) (a15 : Nat) (a16 : Nat) (a17 : Nat) (a18 : Nat) (a19 : Nat) (a20 : Nat) (a21 : Nat) (a22 : Nat) (a23 : Nat) (a31 : Nat) (th : Int32) (p0 : Int32) (p1 : Int32) (p2 : Int32) : Met l yX5_tell (pl_h yX5_tell cX5_tell 5 (some .int)) ({ frames := 0, cells := 0, slots := 0, locals := 0 }) (va_Pc [.ref h0, .int p0, .int p1, .int p2] (pn_M D (pn_Y cI cZ cJ cG) [(h0, .inr (5, [.int th, .int 0, .ref a2, .ref a3, .ref a4, .ref a5, .ref a6, .ref a7, .ref a8, .ref a9, .ref a10, .ref a11, .ref a12, .ref a13, .ref a14, .ref a15, .ref a16, .ref a17, .ref a18, .ref a19, .ref a20, .ref a21, .ref a22, .ref a23, .int 0, .int 0, .int 0, .int 0, .int 0, .int 0, .int 0, .ref a31])), (a2, .inl (cZ, 12, .inl (fun _ => 0))), (a4, .inl (cI, 12, .inl (fun _ => 0))), (a5, .inl (cI, 12, .inl (fun _ => 0))), (a12, .inl (cI, 12, .inl (fun _ => 0)))] sz)) (va_Qi (fun (r : Int32) (u : Unit) => (r = 0 ∧ True)) (fun u tz_ => va_P D vwCl [(h0, .inr (5, [.int th, .int 1, .ref a2, .ref a3, .ref a4, .ref a5, .ref a6, .ref a7, .ref a8, .ref a9, .ref a10, .ref a11, .ref a12, .ref a13, .ref a14, .ref a15, .ref a16, .ref a17, .ref a18, .ref a19, .ref a20, .ref a21, .ref a22, .ref a23, .int 0, .int 0, .int 0, .int 0, .int 0, .int 0, .int 0, .ref a31]))] tz_.heap ∧ va_D (va_A [(h0, .inr (5, [.int th, .int 0, .ref a2, .ref a3, .ref a4, .ref a5, .ref a6, .ref a7, .ref a8, .ref a9, .ref a10, .ref a11, .ref a12, .ref a13, .ref a14, .ref a15, .ref a16, .ref a17, .ref a18, .ref a19, .ref a20, .ref a21, .ref a22, .ref a23, .int 0, .int 0, .int 0, .int 0, .int 0, .int 0, .int 0, .ref a31])), (a2, .inl (cZ, 12, .inl (fun _ => 0))), (a4, .inl (cI, 12, .inl (fun _ => 0))), (a5, .inl (cI, 12, .inl (fun _ => 0))), (a12, .inl (cI, 12, .inl (fun _ => 0)))] sz) [(h0, .inr (5, [.int th, .int 1, .ref a2, .ref a3, .ref a4, .ref a5, .ref a6, .ref a7, .ref a8, .ref a9, .ref a10, .ref a11, .ref a12, .ref a13, .ref a14, .ref a15, .ref a16, .ref a17, .ref a18, .ref a19, .ref a20, .ref a21, .ref a22, .ref a23, .int 0, .int 0, .int 0, .int 0, .int 0, .int 0, .int 0, .ref a31]))]) (va_A [(h0, .inr (5, [.int th, .int 0, .ref a2, .ref a3, .ref a4, .ref a5, .ref a6, .ref a7, .ref a8, .ref a9, .ref a10, .ref a11, .ref a12, .ref a13, .ref a14, .ref a15, .ref a16, .ref a17, .ref a18, .ref a19, .ref a20, .ref a21, .ref a22, .ref a23, .int 0, .int 0, .int 0, .int 0, .int 0, .int 0, .int 0, .ref a31])), (a2, .inl (cZ, 12, .inl (fun _ => 0))), (a4, .inl (cI, 12, .inl (fun _ => 0))), (a5, .inl (cI, 12, .inl (fun _ => 0))), (a12, .inl (cI, 12, .inl (fun _ => 0)))] sz)) 0 0 (va_A [(h0, .inr (5, [.int th, .int 0, .ref a2, .ref a3, .ref a4, .ref a5, .ref a6, .ref a7, .ref a8, .ref a9, .ref a10, .ref a11, .ref a12, .ref a13, .ref a14, .ref a15, .ref a16, .ref a17, .ref a18, .ref a19, .ref a20, .ref a21, .ref a22, .ref a23, .int 0, .int 0, .int 0, .int 0, .int 0, .int 0, .int 0, .ref a31])), (a2, .inl (cZ, 12, .inl (fun _ => 0))), (a4, .inl (cI, 12, .inl (fun _ => 0))), (a5, .inl (cI, 12, .inl (fun _ => 0))), (a12, .inl (cI, 12, .inl (fun _ => 0)))] sz) := by
  refine Met.ofW (cc := cX5_tell) (maxL := 5) (ret := (some .int)) (by decide) rfl ?_
  intro p e s m args below meth c s₁ B hml hv
  obtain ⟨rfl, hsz, hP, hK, hD0⟩ := hv
  have hx := B.exec
  have hb := B.bytes
  have hr := B.returns
  have hts0 := atoms_spec (ws := pl_h yX5_tell cX5_tell 5 (some .int)) B.pre
  have hts := fun (w : Cond) (h : w ∈ pw_all) => hts0 w (List.mem_cons_of_mem _ h)
  have hown : s.vm.findClass RX5 = some m.cls := findClass_of_methodNamed B.named
  have hlocks := B.notSynchronized
  subst hsz
  have hD := hD0.self (sz := s.heap.size)
  generalize hAe : va_A [(h0, .inr (5, [.int th, .int 0, .ref a2, .ref a3, .ref a4, .ref a5, .ref a6, .ref a7, .ref a8, .ref a9, .ref a10, .ref a11, .ref a12, .ref a13, .ref a14, .ref a15, .ref a16, .ref a17, .ref a18, .ref a19, .ref a20, .ref a21, .ref a22, .ref a23, .int 0, .int 0, .int 0, .int 0, .int 0, .int 0, .int 0, .ref a31])), (a2, .inl (cZ, 12, .inl (fun _ => 0))), (a4, .inl (cI, 12, .inl (fun _ => 0))), (a5, .inl (cI, 12, .inl (fun _ => 0))), (a12, .inl (cI, 12, .inl (fun _ => 0)))] s.heap.size = A at hD ⊢
  have hA : ∀ q : Nat, s.heap.size ≤ q → A q := fun q h => by rw [← hAe]; exact Or.inr h
  have hS : va_S A s.heap s.heap [] := va_S.rf
  have hl := lv_entry ([.ref h0, .int p0, .int p1, .int p2]) (n := 5) (Nat.le_of_ble_eq_true rfl)
  rw [lg_entry_eq]
  generalize (lg_sl ([.ref h0, .int p0, .int p1, .int p2]) ++ List.replicate (5 - (lg_sl ([.ref h0, .int p0, .int p1, .int p2])).length) Slot.unset).toArray = ls at hl ⊢
  have hl : lv_has ls 5 [(0, .ref h0), (1, .int p0), (2, .int p1), (3, .int p2)] := hl
  refine lv_aload_n hx hb dX5_tell_0 rfl (lv_at hl 0 rfl) ?_
  refine lv_dup hx hb dX5_tell_1 rfl ?_
  refine va_get (D := D) (ci := 5) (v := .int 0) (C := RX5) (T := TX5) (N := 32) hx hb hts inlX5 hown hK hP 0 rfl rfl 1 (by decide) (hts (.fieldLink RX5 84 "VtableTownModel" "classes" "I") (pl_m 138 (by decide +kernel))) (fun _ h9 => h9) rfl dX5_tell_2 ?_
  refine lv_dup_x1 hx hb dX5_tell_5 rfl rfl ?_
  refine lv_iconst (v := 1) hx hb dX5_tell_6 (by decide) ?_
  refine lv_iadd hx hb dX5_tell_7 ?_
  refine lv_topi (fun f_1 ef_1 => ?_)
  have ef_1 : f_1 = 1 := by rw [ef_1]; decide +kernel
  subst ef_1
  refine va_put (D := D) (ci := 5) (v := .int 1) (ty := .int) (C := RX5) (T := TX5) (N := 32) hx hb hts inlX5 tyX5 tyX5_ok nmX5 hown hK hP hD hS 0 rfl rfl 1 (by decide) (hts (.fieldLink RX5 84 "VtableTownModel" "classes" "I") (pl_m 138 (by decide +kernel))) (fun _ h9 => h9) rfl (by decide +kernel) rfl rfl (Nat.le_of_ble_eq_true rfl) dX5_tell_8 (fun H locs hP hD hS => ?_)
  have hP : va_P D vwCl [(h0, .inr (5, [.int th, .int 1, .ref a2, .ref a3, .ref a4, .ref a5, .ref a6, .ref a7, .ref a8, .ref a9, .ref a10, .ref a11, .ref a12, .ref a13, .ref a14, .ref a15, .ref a16, .ref a17, .ref a18, .ref a19, .ref a20, .ref a21, .ref a22, .ref a23, .int 0, .int 0, .int 0, .int 0, .int 0, .int 0, .int 0, .ref a31])), (a2, .inl (cZ, 12, .inl (fun _ => 0))), (a4, .inl (cI, 12, .inl (fun _ => 0))), (a5, .inl (cI, 12, .inl (fun _ => 0))), (a12, .inl (cI, 12, .inl (fun _ => 0)))] H := hP
  have hD : va_D (A) [(h0, .inr (5, [.int th, .int 1, .ref a2, .ref a3, .ref a4, .ref a5, .ref a6, .ref a7, .ref a8, .ref a9, .ref a10, .ref a11, .ref a12, .ref a13, .ref a14, .ref a15, .ref a16, .ref a17, .ref a18, .ref a19, .ref a20, .ref a21, .ref a22, .ref a23, .int 0, .int 0, .int 0, .int 0, .int 0, .int 0, .int 0, .ref a31])), (a2, .inl (cZ, 12, .inl (fun _ => 0))), (a4, .inl (cI, 12, .inl (fun _ => 0))), (a5, .inl (cI, 12, .inl (fun _ => 0))), (a12, .inl (cI, 12, .inl (fun _ => 0)))] := hD
  refine lv_istore (lv' := [(4, .int 0), (0, .ref h0), (1, .int p0), (2, .int p1), (3, .int p2)]) hx hb dX5_tell_11 hl (by decide) rfl (fun ls hl => ?_)
  refine lv_aload_n hx hb dX5_tell_13 rfl (lv_at hl 1 rfl) ?_
  refine va_get (D := D) (ci := 5) (v := .ref a2) (C := RX5) (T := TX5) (N := 32) hx hb hts inlX5 hown hK hP 0 rfl rfl 2 (by decide) (hts (.fieldLink RX5 9 "VtableTownModel" "isFace" "[Z") (pl_m 83 (by decide +kernel))) (fun _ h9 => h9) rfl dX5_tell_14 ?_
  refine lv_iload hx hb dX5_tell_17 (lv_at hl 0 rfl) ?_
  refine lv_iload_n hx hb dX5_tell_19 rfl (lv_at hl 2 rfl) ?_
  refine va_zast (n := 12) (f := (fun _ => 0)) hx hb hK hP hD hS 1 1 rfl rfl (vp_in_nI (n := 0) (by decide) (by decide)) dX5_tell_20 (fun H locs hP hD hS => ?_)
  have hP : va_P D vwCl [(h0, .inr (5, [.int th, .int 1, .ref a2, .ref a3, .ref a4, .ref a5, .ref a6, .ref a7, .ref a8, .ref a9, .ref a10, .ref a11, .ref a12, .ref a13, .ref a14, .ref a15, .ref a16, .ref a17, .ref a18, .ref a19, .ref a20, .ref a21, .ref a22, .ref a23, .int 0, .int 0, .int 0, .int 0, .int 0, .int 0, .int 0, .ref a31])), (a2, .inl (cZ, 12, .inl (upd (fun _ => 0) (Int32.toNatClampNeg 0) (vp_nar .boolean p0)))), (a4, .inl (cI, 12, .inl (fun _ => 0))), (a5, .inl (cI, 12, .inl (fun _ => 0))), (a12, .inl (cI, 12, .inl (fun _ => 0)))] H := hP
  have hD : va_D (A) [(h0, .inr (5, [.int th, .int 1, .ref a2, .ref a3, .ref a4, .ref a5, .ref a6, .ref a7, .ref a8, .ref a9, .ref a10, .ref a11, .ref a12, .ref a13, .ref a14, .ref a15, .ref a16, .ref a17, .ref a18, .ref a19, .ref a20, .ref a21, .ref a22, .ref a23, .int 0, .int 0, .int 0, .int 0, .int 0, .int 0, .int 0, .ref a31])), (a2, .inl (cZ, 12, .inl (upd (fun _ => 0) (Int32.toNatClampNeg 0) (vp_nar .boolean p0)))), (a4, .inl (cI, 12, .inl (fun _ => 0))), (a5, .inl (cI, 12, .inl (fun _ => 0))), (a12, .inl (cI, 12, .inl (fun _ => 0)))] := hD
  refine lv_aload_n hx hb dX5_tell_21 rfl (lv_at hl 1 rfl) ?_
  refine va_get (D := D) (ci := 5) (v := .ref a4) (C := RX5) (T := TX5) (N := 32) hx hb hts inlX5 hown hK hP 0 rfl rfl 4 (by decide) (hts (.fieldLink RX5 16 "VtableTownModel" "parent" "[I") (pl_m 85 (by decide +kernel))) (fun _ h9 => h9) rfl dX5_tell_22 ?_
  refine lv_iload hx hb dX5_tell_25 (lv_at hl 0 rfl) ?_
  refine lv_iload_n hx hb dX5_tell_27 rfl (lv_at hl 3 rfl) ?_
  refine va_iast (n := 12) (f := (fun _ => 0)) hx hb hK hP hD hS 2 0 rfl rfl (vp_in_nI (n := 0) (by decide) (by decide)) dX5_tell_28 (fun H locs hP hD hS => ?_)
  have hP : va_P D vwCl [(h0, .inr (5, [.int th, .int 1, .ref a2, .ref a3, .ref a4, .ref a5, .ref a6, .ref a7, .ref a8, .ref a9, .ref a10, .ref a11, .ref a12, .ref a13, .ref a14, .ref a15, .ref a16, .ref a17, .ref a18, .ref a19, .ref a20, .ref a21, .ref a22, .ref a23, .int 0, .int 0, .int 0, .int 0, .int 0, .int 0, .int 0, .ref a31])), (a2, .inl (cZ, 12, .inl (upd (fun _ => 0) (Int32.toNatClampNeg 0) (vp_nar .boolean p0)))), (a4, .inl (cI, 12, .inl (upd (fun _ => 0) (Int32.toNatClampNeg 0) p1))), (a5, .inl (cI, 12, .inl (fun _ => 0))), (a12, .inl (cI, 12, .inl (fun _ => 0)))] H := hP
  have hD : va_D (A) [(h0, .inr (5, [.int th, .int 1, .ref a2, .ref a3, .ref a4, .ref a5, .ref a6, .ref a7, .ref a8, .ref a9, .ref a10, .ref a11, .ref a12, .ref a13, .ref a14, .ref a15, .ref a16, .ref a17, .ref a18, .ref a19, .ref a20, .ref a21, .ref a22, .ref a23, .int 0, .int 0, .int 0, .int 0, .int 0, .int 0, .int 0, .ref a31])), (a2, .inl (cZ, 12, .inl (upd (fun _ => 0) (Int32.toNatClampNeg 0) (vp_nar .boolean p0)))), (a4, .inl (cI, 12, .inl (upd (fun _ => 0) (Int32.toNatClampNeg 0) p1))), (a5, .inl (cI, 12, .inl (fun _ => 0))), (a12, .inl (cI, 12, .inl (fun _ => 0)))] := hD
  refine lv_aload_n hx hb dX5_tell_29 rfl (lv_at hl 1 rfl) ?_
  refine va_get (D := D) (ci := 5) (v := .ref a5) (C := RX5) (T := TX5) (N := 32) hx hb hts inlX5 hown hK hP 0 rfl rfl 5 (by decide) (hts (.fieldLink RX5 20 "VtableTownModel" "faces" "[I") (pl_m 86 (by decide +kernel))) (fun _ h9 => h9) rfl dX5_tell_30 ?_
  refine lv_iload hx hb dX5_tell_33 (lv_at hl 0 rfl) ?_
  refine lv_iload_n hx hb dX5_tell_35 rfl (lv_at hl 4 rfl) ?_
  refine va_iast (n := 12) (f := (fun _ => 0)) hx hb hK hP hD hS 3 0 rfl rfl (vp_in_nI (n := 0) (by decide) (by decide)) dX5_tell_36 (fun H locs hP hD hS => ?_)
  have hP : va_P D vwCl [(h0, .inr (5, [.int th, .int 1, .ref a2, .ref a3, .ref a4, .ref a5, .ref a6, .ref a7, .ref a8, .ref a9, .ref a10, .ref a11, .ref a12, .ref a13, .ref a14, .ref a15, .ref a16, .ref a17, .ref a18, .ref a19, .ref a20, .ref a21, .ref a22, .ref a23, .int 0, .int 0, .int 0, .int 0, .int 0, .int 0, .int 0, .ref a31])), (a2, .inl (cZ, 12, .inl (upd (fun _ => 0) (Int32.toNatClampNeg 0) (vp_nar .boolean p0)))), (a4, .inl (cI, 12, .inl (upd (fun _ => 0) (Int32.toNatClampNeg 0) p1))), (a5, .inl (cI, 12, .inl (upd (fun _ => 0) (Int32.toNatClampNeg 0) p2))), (a12, .inl (cI, 12, .inl (fun _ => 0)))] H := hP
  have hD : va_D (A) [(h0, .inr (5, [.int th, .int 1, .ref a2, .ref a3, .ref a4, .ref a5, .ref a6, .ref a7, .ref a8, .ref a9, .ref a10, .ref a11, .ref a12, .ref a13, .ref a14, .ref a15, .ref a16, .ref a17, .ref a18, .ref a19, .ref a20, .ref a21, .ref a22, .ref a23, .int 0, .int 0, .int 0, .int 0, .int 0, .int 0, .int 0, .ref a31])), (a2, .inl (cZ, 12, .inl (upd (fun _ => 0) (Int32.toNatClampNeg 0) (vp_nar .boolean p0)))), (a4, .inl (cI, 12, .inl (upd (fun _ => 0) (Int32.toNatClampNeg 0) p1))), (a5, .inl (cI, 12, .inl (upd (fun _ => 0) (Int32.toNatClampNeg 0) p2))), (a12, .inl (cI, 12, .inl (fun _ => 0)))] := hD
  refine lv_aload_n hx hb dX5_tell_37 rfl (lv_at hl 1 rfl) ?_
  refine va_get (D := D) (ci := 5) (v := .ref a12) (C := RX5) (T := TX5) (N := 32) hx hb hts inlX5 hown hK hP 0 rfl rfl 12 (by decide) (hts (.fieldLink RX5 41 "VtableTownModel" "order" "[I") (pl_m 93 (by decide +kernel))) (fun _ h9 => h9) rfl dX5_tell_38 ?_
  refine lv_iload hx hb dX5_tell_41 (lv_at hl 0 rfl) ?_
  refine lv_iconst (v := (-1)) hx hb dX5_tell_43 (by decide) ?_
  refine va_iast (n := 12) (f := (fun _ => 0)) hx hb hK hP hD hS 4 0 rfl rfl (vp_in_nI (n := 0) (by decide) (by decide)) dX5_tell_44 (fun H locs hP hD hS => ?_)
  have hP : va_P D vwCl [(h0, .inr (5, [.int th, .int 1, .ref a2, .ref a3, .ref a4, .ref a5, .ref a6, .ref a7, .ref a8, .ref a9, .ref a10, .ref a11, .ref a12, .ref a13, .ref a14, .ref a15, .ref a16, .ref a17, .ref a18, .ref a19, .ref a20, .ref a21, .ref a22, .ref a23, .int 0, .int 0, .int 0, .int 0, .int 0, .int 0, .int 0, .ref a31])), (a2, .inl (cZ, 12, .inl (upd (fun _ => 0) (Int32.toNatClampNeg 0) (vp_nar .boolean p0)))), (a4, .inl (cI, 12, .inl (upd (fun _ => 0) (Int32.toNatClampNeg 0) p1))), (a5, .inl (cI, 12, .inl (upd (fun _ => 0) (Int32.toNatClampNeg 0) p2))), (a12, .inl (cI, 12, .inl (upd (fun _ => 0) (Int32.toNatClampNeg 0) (-1))))] H := hP
  have hD : va_D (A) [(h0, .inr (5, [.int th, .int 1, .ref a2, .ref a3, .ref a4, .ref a5, .ref a6, .ref a7, .ref a8, .ref a9, .ref a10, .ref a11, .ref a12, .ref a13, .ref a14, .ref a15, .ref a16, .ref a17, .ref a18, .ref a19, .ref a20, .ref a21, .ref a22, .ref a23, .int 0, .int 0, .int 0, .int 0, .int 0, .int 0, .int 0, .ref a31])), (a2, .inl (cZ, 12, .inl (upd (fun _ => 0) (Int32.toNatClampNeg 0) (vp_nar .boolean p0)))), (a4, .inl (cI, 12, .inl (upd (fun _ => 0) (Int32.toNatClampNeg 0) p1))), (a5, .inl (cI, 12, .inl (upd (fun _ => 0) (Int32.toNatClampNeg 0) p2))), (a12, .inl (cI, 12, .inl (upd (fun _ => 0) (Int32.toNatClampNeg 0) (-1))))] := hD
  refine lv_iload hx hb dX5_tell_45 (lv_at hl 0 rfl) ?_
  have hP9 := hP.sub (ws' := [(h0, .inr (5, [.int th, .int 1, .ref a2, .ref a3, .ref a4, .ref a5, .ref a6, .ref a7, .ref a8, .ref a9, .ref a10, .ref a11, .ref a12, .ref a13, .ref a14, .ref a15, .ref a16, .ref a17, .ref a18, .ref a19, .ref a20, .ref a21, .ref a22, .ref a23, .int 0, .int 0, .int 0, .int 0, .int 0, .int 0, .int 0, .ref a31]))]) [0] rfl
  have hD9 := hD.sub (ws' := [(h0, .inr (5, [.int th, .int 1, .ref a2, .ref a3, .ref a4, .ref a5, .ref a6, .ref a7, .ref a8, .ref a9, .ref a10, .ref a11, .ref a12, .ref a13, .ref a14, .ref a15, .ref a16, .ref a17, .ref a18, .ref a19, .ref a20, .ref a21, .ref a22, .ref a23, .int 0, .int 0, .int 0, .int 0, .int 0, .int 0, .int 0, .ref a31]))]) [0] (by decide) rfl
  exact W.iret (v := 0) hx hb hr (fun tz_ ht hW => ⟨⟨0, (), rfl, ⟨rfl, (by first | exact trivial | omega | (simp only [Int32.reduceToInt] at *; omega) | decide)⟩, (by rw [ht]; exact hP9), hD9⟩, hS.F ht⟩) hS.2.2 dX5_tell_47
set_option maxHeartbeats 4000000 in
set_option maxRecDepth 100000 in
theorem c_X5_plain (l : Launch) (D : va_G) (cI cZ cJ cG : ClassId) (sz : Nat) (h0 : Nat) (a2 : Nat) (a3 : Nat) (a4 : Nat) (a5 : Nat) (a6 : Nat) (a7 : Nat) (a8 : Nat) (a9 : Nat) (a10 : Nat) (a11 : Nat) (a12 : Nat) (a13 : Nat) (a14 : Nat) (a15 : Nat) (a16 : Nat) (a17 : Nat) (a18 : Nat) (a19 : Nat) (a20 : Nat) (a21 : Nat) (a22 : Nat) (a23 : Nat) (a31 : Nat) (p0 : Int32) (p1 : Int32) : Met l yX5_plain (pl_h yX5_plain cX5_plain 3 (some .int)) ({ frames := 1, cells := 0, slots := 0, locals := 24 }) (va_Pc [.ref h0, .int p0, .int p1] (pn_M D (pn_Y cI cZ cJ cG) [(h0, .inr (5, [.int 0, .int 0, .ref a2, .ref a3, .ref a4, .ref a5, .ref a6, .ref a7, .ref a8, .ref a9, .ref a10, .ref a11, .ref a12, .ref a13, .ref a14, .ref a15, .ref a16, .ref a17, .ref a18, .ref a19, .ref a20, .ref a21, .ref a22, .ref a23, .int 0, .int 0, .int 0, .int 0, .int 0, .int 0, .int 0, .ref a31])), (a2, .inl (cZ, 12, .inl (fun _ => 0))), (a4, .inl (cI, 12, .inl (fun _ => 0))), (a5, .inl (cI, 12, .inl (fun _ => 0))), (a12, .inl (cI, 12, .inl (fun _ => 0)))] sz)) (va_Qi (fun (r : Int32) (u : Int32 × List Value) => (r = 0 ∧ u.1 = 0 ∧ ((-1) ≤ p0.toInt ∧ p0.toInt ≤ 11 ∧ p0.toInt ≠ 0 ∧ 0 ≤ p1.toInt ∧ p1.toInt ≤ 4095)) ∨ (r = 0 ∧ u.1 = 1 ∧ (p0.toInt < (-1) ∨ 11 < p0.toInt ∨ p0.toInt = 0 ∨ p1.toInt < 0 ∨ 4095 < p1.toInt))) (fun u tz_ => va_P D vwCl [(h0, .inr (5, (.int u.1 :: u.2)))] tz_.heap ∧ va_D (va_A [(h0, .inr (5, [.int 0, .int 0, .ref a2, .ref a3, .ref a4, .ref a5, .ref a6, .ref a7, .ref a8, .ref a9, .ref a10, .ref a11, .ref a12, .ref a13, .ref a14, .ref a15, .ref a16, .ref a17, .ref a18, .ref a19, .ref a20, .ref a21, .ref a22, .ref a23, .int 0, .int 0, .int 0, .int 0, .int 0, .int 0, .int 0, .ref a31])), (a2, .inl (cZ, 12, .inl (fun _ => 0))), (a4, .inl (cI, 12, .inl (fun _ => 0))), (a5, .inl (cI, 12, .inl (fun _ => 0))), (a12, .inl (cI, 12, .inl (fun _ => 0)))] sz) [(h0, .inr (5, (.int u.1 :: u.2)))]) (va_A [(h0, .inr (5, [.int 0, .int 0, .ref a2, .ref a3, .ref a4, .ref a5, .ref a6, .ref a7, .ref a8, .ref a9, .ref a10, .ref a11, .ref a12, .ref a13, .ref a14, .ref a15, .ref a16, .ref a17, .ref a18, .ref a19, .ref a20, .ref a21, .ref a22, .ref a23, .int 0, .int 0, .int 0, .int 0, .int 0, .int 0, .int 0, .ref a31])), (a2, .inl (cZ, 12, .inl (fun _ => 0))), (a4, .inl (cI, 12, .inl (fun _ => 0))), (a5, .inl (cI, 12, .inl (fun _ => 0))), (a12, .inl (cI, 12, .inl (fun _ => 0)))] sz)) 0 0 (va_A [(h0, .inr (5, [.int 0, .int 0, .ref a2, .ref a3, .ref a4, .ref a5, .ref a6, .ref a7, .ref a8, .ref a9, .ref a10, .ref a11, .ref a12, .ref a13, .ref a14, .ref a15, .ref a16, .ref a17, .ref a18, .ref a19, .ref a20, .ref a21, .ref a22, .ref a23, .int 0, .int 0, .int 0, .int 0, .int 0, .int 0, .int 0, .ref a31])), (a2, .inl (cZ, 12, .inl (fun _ => 0))), (a4, .inl (cI, 12, .inl (fun _ => 0))), (a5, .inl (cI, 12, .inl (fun _ => 0))), (a12, .inl (cI, 12, .inl (fun _ => 0)))] sz) := by
  refine Met.ofW (cc := cX5_plain) (maxL := 3) (ret := (some .int)) (by decide) rfl ?_
  intro p e s m args below meth c s₁ B hml hv
  obtain ⟨rfl, hsz, hP, hK, hD0⟩ := hv
  have hx := B.exec
  have hb := B.bytes
  have hr := B.returns
  have hts0 := atoms_spec (ws := pl_h yX5_plain cX5_plain 3 (some .int)) B.pre
  have hts := fun (w : Cond) (h : w ∈ pw_all) => hts0 w (List.mem_cons_of_mem _ h)
  have hown : s.vm.findClass RX5 = some m.cls := findClass_of_methodNamed B.named
  have hlocks := B.notSynchronized
  subst hsz
  have hD := hD0.self (sz := s.heap.size)
  generalize hAe : va_A [(h0, .inr (5, [.int 0, .int 0, .ref a2, .ref a3, .ref a4, .ref a5, .ref a6, .ref a7, .ref a8, .ref a9, .ref a10, .ref a11, .ref a12, .ref a13, .ref a14, .ref a15, .ref a16, .ref a17, .ref a18, .ref a19, .ref a20, .ref a21, .ref a22, .ref a23, .int 0, .int 0, .int 0, .int 0, .int 0, .int 0, .int 0, .ref a31])), (a2, .inl (cZ, 12, .inl (fun _ => 0))), (a4, .inl (cI, 12, .inl (fun _ => 0))), (a5, .inl (cI, 12, .inl (fun _ => 0))), (a12, .inl (cI, 12, .inl (fun _ => 0)))] s.heap.size = A at hD ⊢
  have hA : ∀ q : Nat, s.heap.size ≤ q → A q := fun q h => by rw [← hAe]; exact Or.inr h
  have hS : va_S A s.heap s.heap [] := va_S.rf
  have hl := lv_entry ([.ref h0, .int p0, .int p1]) (n := 3) (Nat.le_of_ble_eq_true rfl)
  rw [lg_entry_eq]
  generalize (lg_sl ([.ref h0, .int p0, .int p1]) ++ List.replicate (3 - (lg_sl ([.ref h0, .int p0, .int p1])).length) Slot.unset).toArray = ls at hl ⊢
  have hl : lv_has ls 3 [(0, .ref h0), (1, .int p0), (2, .int p1)] := hl
  refine lv_aload_n hx hb dX5_plain_0 rfl (lv_at hl 0 rfl) ?_
  refine lv_iconst (v := 0) hx hb dX5_plain_1 (by decide) ?_
  refine va_put (D := D) (ci := 5) (v := .int 0) (ty := .int) (C := RX5) (T := TX5) (N := 32) hx hb hts inlX5 tyX5 tyX5_ok nmX5 hown hK hP hD hS 0 rfl rfl 0 (by decide) (hts (.fieldLink RX5 80 "VtableTownModel" "thrown" "I") (pl_m 137 (by decide +kernel))) (fun _ h9 => h9) rfl (by decide +kernel) rfl rfl (Nat.le_of_ble_eq_true rfl) dX5_plain_2 (fun H locs hP hD hS => ?_)
  have hP : va_P D vwCl [(h0, .inr (5, [.int 0, .int 0, .ref a2, .ref a3, .ref a4, .ref a5, .ref a6, .ref a7, .ref a8, .ref a9, .ref a10, .ref a11, .ref a12, .ref a13, .ref a14, .ref a15, .ref a16, .ref a17, .ref a18, .ref a19, .ref a20, .ref a21, .ref a22, .ref a23, .int 0, .int 0, .int 0, .int 0, .int 0, .int 0, .int 0, .ref a31])), (a2, .inl (cZ, 12, .inl (fun _ => 0))), (a4, .inl (cI, 12, .inl (fun _ => 0))), (a5, .inl (cI, 12, .inl (fun _ => 0))), (a12, .inl (cI, 12, .inl (fun _ => 0)))] H := hP
  have hD : va_D (A) [(h0, .inr (5, [.int 0, .int 0, .ref a2, .ref a3, .ref a4, .ref a5, .ref a6, .ref a7, .ref a8, .ref a9, .ref a10, .ref a11, .ref a12, .ref a13, .ref a14, .ref a15, .ref a16, .ref a17, .ref a18, .ref a19, .ref a20, .ref a21, .ref a22, .ref a23, .int 0, .int 0, .int 0, .int 0, .int 0, .int 0, .int 0, .ref a31])), (a2, .inl (cZ, 12, .inl (fun _ => 0))), (a4, .inl (cI, 12, .inl (fun _ => 0))), (a5, .inl (cI, 12, .inl (fun _ => 0))), (a12, .inl (cI, 12, .inl (fun _ => 0)))] := hD
  refine lv_iload_n hx hb dX5_plain_5 rfl (lv_at hl 1 rfl) ?_
  refine lv_iconst (v := (-1)) hx hb dX5_plain_6 (by decide) ?_
  refine lv_bipush (v := 11) hx hb dX5_plain_7 (by decide) ?_
  have hPc := hP.sub (ws' := []) [] rfl
  refine pn_ci (va_runS (As := [.int p0, .int (-1), .int 11]) (rest := []) ⟨hx, hb, hml, hown, hts⟩ (c_X5_isIn l D cI cZ cJ cG H.size p0 (-1) 11) (va_cwS 3 hts (pl_S (pl_m 139 (by decide +kernel)) (pl_m 140 (by decide +kernel)) (pl_m 5 (by decide +kernel)) (pl_m 141 (by decide +kernel))) rfl rfl rfl (by decide +kernel) ⟨(Nat.le_of_ble_eq_true rfl), (Nat.le_of_ble_eq_true rfl)⟩) ⟨pn_B_blind, (pn_B_at hPc hK)⟩ rfl rfl hl.1 rfl (lv_room (Nat.le_of_ble_eq_true rfl)) dX5_plain_9 ⟨(Nat.le_of_ble_eq_true rfl), (Nat.le_of_ble_eq_true rfl)⟩) hS hA hP (fun r_1 H locs hw hP hS => ?_)
  have hP : va_P D vwCl [(h0, .inr (5, [.int 0, .int 0, .ref a2, .ref a3, .ref a4, .ref a5, .ref a6, .ref a7, .ref a8, .ref a9, .ref a10, .ref a11, .ref a12, .ref a13, .ref a14, .ref a15, .ref a16, .ref a17, .ref a18, .ref a19, .ref a20, .ref a21, .ref a22, .ref a23, .int 0, .int 0, .int 0, .int 0, .int 0, .int 0, .int 0, .ref a31])), (a2, .inl (cZ, 12, .inl (fun _ => 0))), (a4, .inl (cI, 12, .inl (fun _ => 0))), (a5, .inl (cI, 12, .inl (fun _ => 0))), (a12, .inl (cI, 12, .inl (fun _ => 0)))] H := hP
  rcases hw with ⟨rfl, hw⟩ | ⟨rfl, hw⟩
  · try simp only [Int32.reduceToInt] at hw
    have hw_2 := hw
    refine lv_if_eq (tgt := 34) hx hb dX5_plain_12 (by decide) (fun h9 => absurd h9 (by decide)) (fun _ => ?_)
    refine lv_iload_n hx hb dX5_plain_15 rfl (lv_at hl 1 rfl) ?_
    refine lv_aload_n hx hb dX5_plain_16 rfl (lv_at hl 0 rfl) ?_
    refine va_get (D := D) (ci := 5) (v := .int 0) (C := RX5) (T := TX5) (N := 32) hx hb hts inlX5 hown hK hP 0 rfl rfl 1 (by decide) (hts (.fieldLink RX5 84 "VtableTownModel" "classes" "I") (pl_m 138 (by decide +kernel))) (fun _ h9 => h9) rfl dX5_plain_17 ?_
    refine lv_icmp_eq (tgt := 34) hx hb dX5_plain_20 (by decide) (fun c_3 => ?_) (fun c_3 => ?_)
    · simp only [pn_lt, pn_le, pn_eq, Int32.reduceToInt] at c_3
      refine lv_aload_n hx hb dX5_plain_34 rfl (lv_at hl 0 rfl) ?_
      refine lv_iconst (v := 1) hx hb dX5_plain_35 (by decide) ?_
      have hPc := hP.sub (ws' := [(h0, .inr (5, [.int 0, .int 0, .ref a2, .ref a3, .ref a4, .ref a5, .ref a6, .ref a7, .ref a8, .ref a9, .ref a10, .ref a11, .ref a12, .ref a13, .ref a14, .ref a15, .ref a16, .ref a17, .ref a18, .ref a19, .ref a20, .ref a21, .ref a22, .ref a23, .int 0, .int 0, .int 0, .int 0, .int 0, .int 0, .int 0, .ref a31]))]) [0] rfl
      have hDc := hD.sub (ws' := [(h0, .inr (5, [.int 0, .int 0, .ref a2, .ref a3, .ref a4, .ref a5, .ref a6, .ref a7, .ref a8, .ref a9, .ref a10, .ref a11, .ref a12, .ref a13, .ref a14, .ref a15, .ref a16, .ref a17, .ref a18, .ref a19, .ref a20, .ref a21, .ref a22, .ref a23, .int 0, .int 0, .int 0, .int 0, .int 0, .int 0, .int 0, .ref a31]))]) [0] (by decide) rfl
      refine pn_mi (w1 := fun (u : Unit) => [(h0, .inr (5, [.int 1, .int 0, .ref a2, .ref a3, .ref a4, .ref a5, .ref a6, .ref a7, .ref a8, .ref a9, .ref a10, .ref a11, .ref a12, .ref a13, .ref a14, .ref a15, .ref a16, .ref a17, .ref a18, .ref a19, .ref a20, .ref a21, .ref a22, .ref a23, .int 0, .int 0, .int 0, .int 0, .int 0, .int 0, .int 0, .ref a31]))]) (wr := [(a2, .inl (cZ, 12, .inl (fun _ => 0))), (a4, .inl (cI, 12, .inl (fun _ => 0))), (a5, .inl (cI, 12, .inl (fun _ => 0))), (a12, .inl (cI, 12, .inl (fun _ => 0)))]) (wc := [(h0, .inr (5, [.int 0, .int 0, .ref a2, .ref a3, .ref a4, .ref a5, .ref a6, .ref a7, .ref a8, .ref a9, .ref a10, .ref a11, .ref a12, .ref a13, .ref a14, .ref a15, .ref a16, .ref a17, .ref a18, .ref a19, .ref a20, .ref a21, .ref a22, .ref a23, .int 0, .int 0, .int 0, .int 0, .int 0, .int 0, .int 0, .ref a31]))]) [0] [1, 2, 3, 4] (va_runV (As := [.int 1]) (rest := []) ⟨hx, hb, hml, hown, hts⟩ (c_X5_no l D cI cZ cJ cG H.size h0 a2 a3 a4 a5 a6 a7 a8 a9 a10 a11 a12 a13 a14 a15 a16 a17 a18 a19 a20 a21 a22 a23 a31 0 1) (cwV 1 hts (pl_V (pl_m 142 (by decide +kernel)) (pl_m 143 (by decide +kernel)) (pl_m 144 (by decide +kernel)) (pl_m 5 (by decide +kernel)) (pl_m 145 (by decide +kernel))) rfl rfl rfl (by decide +kernel) ⟨(Nat.le_of_ble_eq_true rfl), (Nat.le_of_ble_eq_true rfl)⟩) ⟨pn_M_blind, va_recv hK hPc (ci := 5) (q0 := 0) rfl rfl, (pn_M_at hPc hDc hK)⟩ rfl rfl hl.1 rfl (lv_room (Nat.le_of_ble_eq_true rfl)) dX5_plain_36 ⟨(Nat.le_of_ble_eq_true rfl), (Nat.le_of_ble_eq_true rfl)⟩) hS hA hP hD rfl rfl (by decide) (by decide) (fun r_4 u_4 H locs hw hP hD hS => ?_)
      have hP : va_P D vwCl [(a2, .inl (cZ, 12, .inl (fun _ => 0))), (a4, .inl (cI, 12, .inl (fun _ => 0))), (a5, .inl (cI, 12, .inl (fun _ => 0))), (a12, .inl (cI, 12, .inl (fun _ => 0))), (h0, .inr (5, [.int 1, .int 0, .ref a2, .ref a3, .ref a4, .ref a5, .ref a6, .ref a7, .ref a8, .ref a9, .ref a10, .ref a11, .ref a12, .ref a13, .ref a14, .ref a15, .ref a16, .ref a17, .ref a18, .ref a19, .ref a20, .ref a21, .ref a22, .ref a23, .int 0, .int 0, .int 0, .int 0, .int 0, .int 0, .int 0, .ref a31]))] H := hP
      have hD : va_D (A) [(a2, .inl (cZ, 12, .inl (fun _ => 0))), (a4, .inl (cI, 12, .inl (fun _ => 0))), (a5, .inl (cI, 12, .inl (fun _ => 0))), (a12, .inl (cI, 12, .inl (fun _ => 0))), (h0, .inr (5, [.int 1, .int 0, .ref a2, .ref a3, .ref a4, .ref a5, .ref a6, .ref a7, .ref a8, .ref a9, .ref a10, .ref a11, .ref a12, .ref a13, .ref a14, .ref a15, .ref a16, .ref a17, .ref a18, .ref a19, .ref a20, .ref a21, .ref a22, .ref a23, .int 0, .int 0, .int 0, .int 0, .int 0, .int 0, .int 0, .ref a31]))] := hD
      obtain ⟨rfl, hw⟩ := hw
      try simp only [Int32.reduceToInt] at hw
      have hP9 := hP.sub (ws' := [(h0, .inr (5, [.int 1, .int 0, .ref a2, .ref a3, .ref a4, .ref a5, .ref a6, .ref a7, .ref a8, .ref a9, .ref a10, .ref a11, .ref a12, .ref a13, .ref a14, .ref a15, .ref a16, .ref a17, .ref a18, .ref a19, .ref a20, .ref a21, .ref a22, .ref a23, .int 0, .int 0, .int 0, .int 0, .int 0, .int 0, .int 0, .ref a31]))]) [4] rfl
      have hD9 := hD.sub (ws' := [(h0, .inr (5, [.int 1, .int 0, .ref a2, .ref a3, .ref a4, .ref a5, .ref a6, .ref a7, .ref a8, .ref a9, .ref a10, .ref a11, .ref a12, .ref a13, .ref a14, .ref a15, .ref a16, .ref a17, .ref a18, .ref a19, .ref a20, .ref a21, .ref a22, .ref a23, .int 0, .int 0, .int 0, .int 0, .int 0, .int 0, .int 0, .ref a31]))]) [4] (by decide) rfl
      exact W.iret (v := 0) hx hb hr (fun tz_ ht hW => ⟨⟨0, (1, [.int 0, .ref a2, .ref a3, .ref a4, .ref a5, .ref a6, .ref a7, .ref a8, .ref a9, .ref a10, .ref a11, .ref a12, .ref a13, .ref a14, .ref a15, .ref a16, .ref a17, .ref a18, .ref a19, .ref a20, .ref a21, .ref a22, .ref a23, .int 0, .int 0, .int 0, .int 0, .int 0, .int 0, .int 0, .ref a31]), rfl, (Or.inr ⟨rfl, rfl, (by first | exact trivial | omega | (simp only [Int32.reduceToInt] at *; omega) | decide)⟩), (by rw [ht]; exact hP9), hD9⟩, hS.F ht⟩) hS.2.2 dX5_plain_39
    · simp only [pn_lt, pn_le, pn_eq, Int32.reduceToInt] at c_3
      refine lv_iload_n hx hb dX5_plain_23 rfl (lv_at hl 2 rfl) ?_
      refine lv_iconst (v := 0) hx hb dX5_plain_24 (by decide) ?_
      refine lv_sipush (v := 4095) hx hb dX5_plain_25 (by decide) ?_
      have hPc := hP.sub (ws' := []) [] rfl
      refine pn_ci (va_runS (As := [.int p1, .int 0, .int 4095]) (rest := []) ⟨hx, hb, hml, hown, hts⟩ (c_X5_isIn l D cI cZ cJ cG H.size p1 0 4095) (va_cwS 3 hts (pl_S (pl_m 139 (by decide +kernel)) (pl_m 140 (by decide +kernel)) (pl_m 5 (by decide +kernel)) (pl_m 141 (by decide +kernel))) rfl rfl rfl (by decide +kernel) ⟨(Nat.le_of_ble_eq_true rfl), (Nat.le_of_ble_eq_true rfl)⟩) ⟨pn_B_blind, (pn_B_at hPc hK)⟩ rfl rfl hl.1 rfl (lv_room (Nat.le_of_ble_eq_true rfl)) dX5_plain_28 ⟨(Nat.le_of_ble_eq_true rfl), (Nat.le_of_ble_eq_true rfl)⟩) hS hA hP (fun r_5 H locs hw hP hS => ?_)
      have hP : va_P D vwCl [(h0, .inr (5, [.int 0, .int 0, .ref a2, .ref a3, .ref a4, .ref a5, .ref a6, .ref a7, .ref a8, .ref a9, .ref a10, .ref a11, .ref a12, .ref a13, .ref a14, .ref a15, .ref a16, .ref a17, .ref a18, .ref a19, .ref a20, .ref a21, .ref a22, .ref a23, .int 0, .int 0, .int 0, .int 0, .int 0, .int 0, .int 0, .ref a31])), (a2, .inl (cZ, 12, .inl (fun _ => 0))), (a4, .inl (cI, 12, .inl (fun _ => 0))), (a5, .inl (cI, 12, .inl (fun _ => 0))), (a12, .inl (cI, 12, .inl (fun _ => 0)))] H := hP
      rcases hw with ⟨rfl, hw⟩ | ⟨rfl, hw⟩
      · try simp only [Int32.reduceToInt] at hw
        have hw_6 := hw
        refine lv_if_ne (tgt := 40) hx hb dX5_plain_31 (by decide) (fun _ => ?_) (fun h9 => absurd h9 (by decide))
        refine lv_aload_n hx hb dX5_plain_40 rfl (lv_at hl 0 rfl) ?_
        refine va_get (D := D) (ci := 5) (v := .int 0) (C := RX5) (T := TX5) (N := 32) hx hb hts inlX5 hown hK hP 0 rfl rfl 1 (by decide) (hts (.fieldLink RX5 84 "VtableTownModel" "classes" "I") (pl_m 138 (by decide +kernel))) (fun _ h9 => h9) rfl dX5_plain_41 ?_
        refine lv_bipush (v := 12) hx hb dX5_plain_44 (by decide) ?_
        refine lv_icmp_ne (tgt := 57) hx hb dX5_plain_46 (by decide) (fun _ => ?_) (fun h9 => absurd h9 (by decide))
        refine lv_aload_n hx hb dX5_plain_57 rfl (lv_at hl 0 rfl) ?_
        refine lv_iconst (v := 0) hx hb dX5_plain_58 (by decide) ?_
        refine lv_iload_n hx hb dX5_plain_59 rfl (lv_at hl 1 rfl) ?_
        refine lv_iload_n hx hb dX5_plain_60 rfl (lv_at hl 2 rfl) ?_
        have hPc := hP.sub (ws' := [(h0, .inr (5, [.int 0, .int 0, .ref a2, .ref a3, .ref a4, .ref a5, .ref a6, .ref a7, .ref a8, .ref a9, .ref a10, .ref a11, .ref a12, .ref a13, .ref a14, .ref a15, .ref a16, .ref a17, .ref a18, .ref a19, .ref a20, .ref a21, .ref a22, .ref a23, .int 0, .int 0, .int 0, .int 0, .int 0, .int 0, .int 0, .ref a31])), (a2, .inl (cZ, 12, .inl (fun _ => 0))), (a4, .inl (cI, 12, .inl (fun _ => 0))), (a5, .inl (cI, 12, .inl (fun _ => 0))), (a12, .inl (cI, 12, .inl (fun _ => 0)))]) [0, 1, 2, 3, 4] rfl
        have hDc := hD.sub (ws' := [(h0, .inr (5, [.int 0, .int 0, .ref a2, .ref a3, .ref a4, .ref a5, .ref a6, .ref a7, .ref a8, .ref a9, .ref a10, .ref a11, .ref a12, .ref a13, .ref a14, .ref a15, .ref a16, .ref a17, .ref a18, .ref a19, .ref a20, .ref a21, .ref a22, .ref a23, .int 0, .int 0, .int 0, .int 0, .int 0, .int 0, .int 0, .ref a31])), (a2, .inl (cZ, 12, .inl (fun _ => 0))), (a4, .inl (cI, 12, .inl (fun _ => 0))), (a5, .inl (cI, 12, .inl (fun _ => 0))), (a12, .inl (cI, 12, .inl (fun _ => 0)))]) [0, 1, 2, 3, 4] (by decide) rfl
        refine pn_mi (w1 := fun (u : Unit) => [(h0, .inr (5, [.int 0, .int 1, .ref a2, .ref a3, .ref a4, .ref a5, .ref a6, .ref a7, .ref a8, .ref a9, .ref a10, .ref a11, .ref a12, .ref a13, .ref a14, .ref a15, .ref a16, .ref a17, .ref a18, .ref a19, .ref a20, .ref a21, .ref a22, .ref a23, .int 0, .int 0, .int 0, .int 0, .int 0, .int 0, .int 0, .ref a31]))]) (wr := []) (wc := [(h0, .inr (5, [.int 0, .int 0, .ref a2, .ref a3, .ref a4, .ref a5, .ref a6, .ref a7, .ref a8, .ref a9, .ref a10, .ref a11, .ref a12, .ref a13, .ref a14, .ref a15, .ref a16, .ref a17, .ref a18, .ref a19, .ref a20, .ref a21, .ref a22, .ref a23, .int 0, .int 0, .int 0, .int 0, .int 0, .int 0, .int 0, .ref a31])), (a2, .inl (cZ, 12, .inl (fun _ => 0))), (a4, .inl (cI, 12, .inl (fun _ => 0))), (a5, .inl (cI, 12, .inl (fun _ => 0))), (a12, .inl (cI, 12, .inl (fun _ => 0)))]) [0, 1, 2, 3, 4] [] (va_runV (As := [.int 0, .int p0, .int p1]) (rest := []) ⟨hx, hb, hml, hown, hts⟩ (c_X5_tell l D cI cZ cJ cG H.size h0 a2 a3 a4 a5 a6 a7 a8 a9 a10 a11 a12 a13 a14 a15 a16 a17 a18 a19 a20 a21 a22 a23 a31 0 0 p0 p1) (cwV 3 hts (pl_V (pl_m 146 (by decide +kernel)) (pl_m 147 (by decide +kernel)) (pl_m 148 (by decide +kernel)) (pl_m 5 (by decide +kernel)) (pl_m 149 (by decide +kernel))) rfl rfl rfl (by decide +kernel) ⟨(Nat.le_of_ble_eq_true rfl), (Nat.le_of_ble_eq_true rfl)⟩) ⟨pn_M_blind, va_recv hK hPc (ci := 5) (q0 := 0) rfl rfl, (pn_M_at hPc hDc hK)⟩ rfl rfl hl.1 rfl (lv_room (Nat.le_of_ble_eq_true rfl)) dX5_plain_61 ⟨(Nat.le_of_ble_eq_true rfl), (Nat.le_of_ble_eq_true rfl)⟩) hS hA hP hD rfl rfl (by decide) (by decide) (fun r_7 u_7 H locs hw hP hD hS => ?_)
        have hP : va_P D vwCl [(h0, .inr (5, [.int 0, .int 1, .ref a2, .ref a3, .ref a4, .ref a5, .ref a6, .ref a7, .ref a8, .ref a9, .ref a10, .ref a11, .ref a12, .ref a13, .ref a14, .ref a15, .ref a16, .ref a17, .ref a18, .ref a19, .ref a20, .ref a21, .ref a22, .ref a23, .int 0, .int 0, .int 0, .int 0, .int 0, .int 0, .int 0, .ref a31]))] H := hP
        have hD : va_D (A) [(h0, .inr (5, [.int 0, .int 1, .ref a2, .ref a3, .ref a4, .ref a5, .ref a6, .ref a7, .ref a8, .ref a9, .ref a10, .ref a11, .ref a12, .ref a13, .ref a14, .ref a15, .ref a16, .ref a17, .ref a18, .ref a19, .ref a20, .ref a21, .ref a22, .ref a23, .int 0, .int 0, .int 0, .int 0, .int 0, .int 0, .int 0, .ref a31]))] := hD
        obtain ⟨rfl, hw⟩ := hw
        try simp only [Int32.reduceToInt] at hw
        have hP9 := hP.sub (ws' := [(h0, .inr (5, [.int 0, .int 1, .ref a2, .ref a3, .ref a4, .ref a5, .ref a6, .ref a7, .ref a8, .ref a9, .ref a10, .ref a11, .ref a12, .ref a13, .ref a14, .ref a15, .ref a16, .ref a17, .ref a18, .ref a19, .ref a20, .ref a21, .ref a22, .ref a23, .int 0, .int 0, .int 0, .int 0, .int 0, .int 0, .int 0, .ref a31]))]) [0] rfl
        have hD9 := hD.sub (ws' := [(h0, .inr (5, [.int 0, .int 1, .ref a2, .ref a3, .ref a4, .ref a5, .ref a6, .ref a7, .ref a8, .ref a9, .ref a10, .ref a11, .ref a12, .ref a13, .ref a14, .ref a15, .ref a16, .ref a17, .ref a18, .ref a19, .ref a20, .ref a21, .ref a22, .ref a23, .int 0, .int 0, .int 0, .int 0, .int 0, .int 0, .int 0, .ref a31]))]) [0] (by decide) rfl
        exact W.iret (v := 0) hx hb hr (fun tz_ ht hW => ⟨⟨0, (0, [.int 1, .ref a2, .ref a3, .ref a4, .ref a5, .ref a6, .ref a7, .ref a8, .ref a9, .ref a10, .ref a11, .ref a12, .ref a13, .ref a14, .ref a15, .ref a16, .ref a17, .ref a18, .ref a19, .ref a20, .ref a21, .ref a22, .ref a23, .int 0, .int 0, .int 0, .int 0, .int 0, .int 0, .int 0, .ref a31]), rfl, (Or.inl ⟨rfl, rfl, (by first | exact trivial | omega | (simp only [Int32.reduceToInt] at *; omega) | decide)⟩), (by rw [ht]; exact hP9), hD9⟩, hS.F ht⟩) hS.2.2 dX5_plain_64
      · try simp only [Int32.reduceToInt] at hw
        have hw_8 := hw
        refine lv_if_ne (tgt := 40) hx hb dX5_plain_31 (by decide) (fun h9 => absurd (by decide) h9) (fun _ => ?_)
        refine lv_aload_n hx hb dX5_plain_34 rfl (lv_at hl 0 rfl) ?_
        refine lv_iconst (v := 1) hx hb dX5_plain_35 (by decide) ?_
        have hPc := hP.sub (ws' := [(h0, .inr (5, [.int 0, .int 0, .ref a2, .ref a3, .ref a4, .ref a5, .ref a6, .ref a7, .ref a8, .ref a9, .ref a10, .ref a11, .ref a12, .ref a13, .ref a14, .ref a15, .ref a16, .ref a17, .ref a18, .ref a19, .ref a20, .ref a21, .ref a22, .ref a23, .int 0, .int 0, .int 0, .int 0, .int 0, .int 0, .int 0, .ref a31]))]) [0] rfl
        have hDc := hD.sub (ws' := [(h0, .inr (5, [.int 0, .int 0, .ref a2, .ref a3, .ref a4, .ref a5, .ref a6, .ref a7, .ref a8, .ref a9, .ref a10, .ref a11, .ref a12, .ref a13, .ref a14, .ref a15, .ref a16, .ref a17, .ref a18, .ref a19, .ref a20, .ref a21, .ref a22, .ref a23, .int 0, .int 0, .int 0, .int 0, .int 0, .int 0, .int 0, .ref a31]))]) [0] (by decide) rfl
        refine pn_mi (w1 := fun (u : Unit) => [(h0, .inr (5, [.int 1, .int 0, .ref a2, .ref a3, .ref a4, .ref a5, .ref a6, .ref a7, .ref a8, .ref a9, .ref a10, .ref a11, .ref a12, .ref a13, .ref a14, .ref a15, .ref a16, .ref a17, .ref a18, .ref a19, .ref a20, .ref a21, .ref a22, .ref a23, .int 0, .int 0, .int 0, .int 0, .int 0, .int 0, .int 0, .ref a31]))]) (wr := [(a2, .inl (cZ, 12, .inl (fun _ => 0))), (a4, .inl (cI, 12, .inl (fun _ => 0))), (a5, .inl (cI, 12, .inl (fun _ => 0))), (a12, .inl (cI, 12, .inl (fun _ => 0)))]) (wc := [(h0, .inr (5, [.int 0, .int 0, .ref a2, .ref a3, .ref a4, .ref a5, .ref a6, .ref a7, .ref a8, .ref a9, .ref a10, .ref a11, .ref a12, .ref a13, .ref a14, .ref a15, .ref a16, .ref a17, .ref a18, .ref a19, .ref a20, .ref a21, .ref a22, .ref a23, .int 0, .int 0, .int 0, .int 0, .int 0, .int 0, .int 0, .ref a31]))]) [0] [1, 2, 3, 4] (va_runV (As := [.int 1]) (rest := []) ⟨hx, hb, hml, hown, hts⟩ (c_X5_no l D cI cZ cJ cG H.size h0 a2 a3 a4 a5 a6 a7 a8 a9 a10 a11 a12 a13 a14 a15 a16 a17 a18 a19 a20 a21 a22 a23 a31 0 1) (cwV 1 hts (pl_V (pl_m 142 (by decide +kernel)) (pl_m 143 (by decide +kernel)) (pl_m 144 (by decide +kernel)) (pl_m 5 (by decide +kernel)) (pl_m 145 (by decide +kernel))) rfl rfl rfl (by decide +kernel) ⟨(Nat.le_of_ble_eq_true rfl), (Nat.le_of_ble_eq_true rfl)⟩) ⟨pn_M_blind, va_recv hK hPc (ci := 5) (q0 := 0) rfl rfl, (pn_M_at hPc hDc hK)⟩ rfl rfl hl.1 rfl (lv_room (Nat.le_of_ble_eq_true rfl)) dX5_plain_36 ⟨(Nat.le_of_ble_eq_true rfl), (Nat.le_of_ble_eq_true rfl)⟩) hS hA hP hD rfl rfl (by decide) (by decide) (fun r_9 u_9 H locs hw hP hD hS => ?_)
        have hP : va_P D vwCl [(a2, .inl (cZ, 12, .inl (fun _ => 0))), (a4, .inl (cI, 12, .inl (fun _ => 0))), (a5, .inl (cI, 12, .inl (fun _ => 0))), (a12, .inl (cI, 12, .inl (fun _ => 0))), (h0, .inr (5, [.int 1, .int 0, .ref a2, .ref a3, .ref a4, .ref a5, .ref a6, .ref a7, .ref a8, .ref a9, .ref a10, .ref a11, .ref a12, .ref a13, .ref a14, .ref a15, .ref a16, .ref a17, .ref a18, .ref a19, .ref a20, .ref a21, .ref a22, .ref a23, .int 0, .int 0, .int 0, .int 0, .int 0, .int 0, .int 0, .ref a31]))] H := hP
        have hD : va_D (A) [(a2, .inl (cZ, 12, .inl (fun _ => 0))), (a4, .inl (cI, 12, .inl (fun _ => 0))), (a5, .inl (cI, 12, .inl (fun _ => 0))), (a12, .inl (cI, 12, .inl (fun _ => 0))), (h0, .inr (5, [.int 1, .int 0, .ref a2, .ref a3, .ref a4, .ref a5, .ref a6, .ref a7, .ref a8, .ref a9, .ref a10, .ref a11, .ref a12, .ref a13, .ref a14, .ref a15, .ref a16, .ref a17, .ref a18, .ref a19, .ref a20, .ref a21, .ref a22, .ref a23, .int 0, .int 0, .int 0, .int 0, .int 0, .int 0, .int 0, .ref a31]))] := hD
        obtain ⟨rfl, hw⟩ := hw
        try simp only [Int32.reduceToInt] at hw
        have hP9 := hP.sub (ws' := [(h0, .inr (5, [.int 1, .int 0, .ref a2, .ref a3, .ref a4, .ref a5, .ref a6, .ref a7, .ref a8, .ref a9, .ref a10, .ref a11, .ref a12, .ref a13, .ref a14, .ref a15, .ref a16, .ref a17, .ref a18, .ref a19, .ref a20, .ref a21, .ref a22, .ref a23, .int 0, .int 0, .int 0, .int 0, .int 0, .int 0, .int 0, .ref a31]))]) [4] rfl
        have hD9 := hD.sub (ws' := [(h0, .inr (5, [.int 1, .int 0, .ref a2, .ref a3, .ref a4, .ref a5, .ref a6, .ref a7, .ref a8, .ref a9, .ref a10, .ref a11, .ref a12, .ref a13, .ref a14, .ref a15, .ref a16, .ref a17, .ref a18, .ref a19, .ref a20, .ref a21, .ref a22, .ref a23, .int 0, .int 0, .int 0, .int 0, .int 0, .int 0, .int 0, .ref a31]))]) [4] (by decide) rfl
        exact W.iret (v := 0) hx hb hr (fun tz_ ht hW => ⟨⟨0, (1, [.int 0, .ref a2, .ref a3, .ref a4, .ref a5, .ref a6, .ref a7, .ref a8, .ref a9, .ref a10, .ref a11, .ref a12, .ref a13, .ref a14, .ref a15, .ref a16, .ref a17, .ref a18, .ref a19, .ref a20, .ref a21, .ref a22, .ref a23, .int 0, .int 0, .int 0, .int 0, .int 0, .int 0, .int 0, .ref a31]), rfl, (Or.inr ⟨rfl, rfl, (by first | exact trivial | omega | (simp only [Int32.reduceToInt] at *; omega) | decide)⟩), (by rw [ht]; exact hP9), hD9⟩, hS.F ht⟩) hS.2.2 dX5_plain_39
  · try simp only [Int32.reduceToInt] at hw
    have hw_10 := hw
    refine lv_if_eq (tgt := 34) hx hb dX5_plain_12 (by decide) (fun _ => ?_) (fun h9 => absurd (by decide) h9)
    refine lv_aload_n hx hb dX5_plain_34 rfl (lv_at hl 0 rfl) ?_
    refine lv_iconst (v := 1) hx hb dX5_plain_35 (by decide) ?_
    have hPc := hP.sub (ws' := [(h0, .inr (5, [.int 0, .int 0, .ref a2, .ref a3, .ref a4, .ref a5, .ref a6, .ref a7, .ref a8, .ref a9, .ref a10, .ref a11, .ref a12, .ref a13, .ref a14, .ref a15, .ref a16, .ref a17, .ref a18, .ref a19, .ref a20, .ref a21, .ref a22, .ref a23, .int 0, .int 0, .int 0, .int 0, .int 0, .int 0, .int 0, .ref a31]))]) [0] rfl
    have hDc := hD.sub (ws' := [(h0, .inr (5, [.int 0, .int 0, .ref a2, .ref a3, .ref a4, .ref a5, .ref a6, .ref a7, .ref a8, .ref a9, .ref a10, .ref a11, .ref a12, .ref a13, .ref a14, .ref a15, .ref a16, .ref a17, .ref a18, .ref a19, .ref a20, .ref a21, .ref a22, .ref a23, .int 0, .int 0, .int 0, .int 0, .int 0, .int 0, .int 0, .ref a31]))]) [0] (by decide) rfl
    refine pn_mi (w1 := fun (u : Unit) => [(h0, .inr (5, [.int 1, .int 0, .ref a2, .ref a3, .ref a4, .ref a5, .ref a6, .ref a7, .ref a8, .ref a9, .ref a10, .ref a11, .ref a12, .ref a13, .ref a14, .ref a15, .ref a16, .ref a17, .ref a18, .ref a19, .ref a20, .ref a21, .ref a22, .ref a23, .int 0, .int 0, .int 0, .int 0, .int 0, .int 0, .int 0, .ref a31]))]) (wr := [(a2, .inl (cZ, 12, .inl (fun _ => 0))), (a4, .inl (cI, 12, .inl (fun _ => 0))), (a5, .inl (cI, 12, .inl (fun _ => 0))), (a12, .inl (cI, 12, .inl (fun _ => 0)))]) (wc := [(h0, .inr (5, [.int 0, .int 0, .ref a2, .ref a3, .ref a4, .ref a5, .ref a6, .ref a7, .ref a8, .ref a9, .ref a10, .ref a11, .ref a12, .ref a13, .ref a14, .ref a15, .ref a16, .ref a17, .ref a18, .ref a19, .ref a20, .ref a21, .ref a22, .ref a23, .int 0, .int 0, .int 0, .int 0, .int 0, .int 0, .int 0, .ref a31]))]) [0] [1, 2, 3, 4] (va_runV (As := [.int 1]) (rest := []) ⟨hx, hb, hml, hown, hts⟩ (c_X5_no l D cI cZ cJ cG H.size h0 a2 a3 a4 a5 a6 a7 a8 a9 a10 a11 a12 a13 a14 a15 a16 a17 a18 a19 a20 a21 a22 a23 a31 0 1) (cwV 1 hts (pl_V (pl_m 142 (by decide +kernel)) (pl_m 143 (by decide +kernel)) (pl_m 144 (by decide +kernel)) (pl_m 5 (by decide +kernel)) (pl_m 145 (by decide +kernel))) rfl rfl rfl (by decide +kernel) ⟨(Nat.le_of_ble_eq_true rfl), (Nat.le_of_ble_eq_true rfl)⟩) ⟨pn_M_blind, va_recv hK hPc (ci := 5) (q0 := 0) rfl rfl, (pn_M_at hPc hDc hK)⟩ rfl rfl hl.1 rfl (lv_room (Nat.le_of_ble_eq_true rfl)) dX5_plain_36 ⟨(Nat.le_of_ble_eq_true rfl), (Nat.le_of_ble_eq_true rfl)⟩) hS hA hP hD rfl rfl (by decide) (by decide) (fun r_11 u_11 H locs hw hP hD hS => ?_)
    have hP : va_P D vwCl [(a2, .inl (cZ, 12, .inl (fun _ => 0))), (a4, .inl (cI, 12, .inl (fun _ => 0))), (a5, .inl (cI, 12, .inl (fun _ => 0))), (a12, .inl (cI, 12, .inl (fun _ => 0))), (h0, .inr (5, [.int 1, .int 0, .ref a2, .ref a3, .ref a4, .ref a5, .ref a6, .ref a7, .ref a8, .ref a9, .ref a10, .ref a11, .ref a12, .ref a13, .ref a14, .ref a15, .ref a16, .ref a17, .ref a18, .ref a19, .ref a20, .ref a21, .ref a22, .ref a23, .int 0, .int 0, .int 0, .int 0, .int 0, .int 0, .int 0, .ref a31]))] H := hP
    have hD : va_D (A) [(a2, .inl (cZ, 12, .inl (fun _ => 0))), (a4, .inl (cI, 12, .inl (fun _ => 0))), (a5, .inl (cI, 12, .inl (fun _ => 0))), (a12, .inl (cI, 12, .inl (fun _ => 0))), (h0, .inr (5, [.int 1, .int 0, .ref a2, .ref a3, .ref a4, .ref a5, .ref a6, .ref a7, .ref a8, .ref a9, .ref a10, .ref a11, .ref a12, .ref a13, .ref a14, .ref a15, .ref a16, .ref a17, .ref a18, .ref a19, .ref a20, .ref a21, .ref a22, .ref a23, .int 0, .int 0, .int 0, .int 0, .int 0, .int 0, .int 0, .ref a31]))] := hD
    obtain ⟨rfl, hw⟩ := hw
    try simp only [Int32.reduceToInt] at hw
    have hP9 := hP.sub (ws' := [(h0, .inr (5, [.int 1, .int 0, .ref a2, .ref a3, .ref a4, .ref a5, .ref a6, .ref a7, .ref a8, .ref a9, .ref a10, .ref a11, .ref a12, .ref a13, .ref a14, .ref a15, .ref a16, .ref a17, .ref a18, .ref a19, .ref a20, .ref a21, .ref a22, .ref a23, .int 0, .int 0, .int 0, .int 0, .int 0, .int 0, .int 0, .ref a31]))]) [4] rfl
    have hD9 := hD.sub (ws' := [(h0, .inr (5, [.int 1, .int 0, .ref a2, .ref a3, .ref a4, .ref a5, .ref a6, .ref a7, .ref a8, .ref a9, .ref a10, .ref a11, .ref a12, .ref a13, .ref a14, .ref a15, .ref a16, .ref a17, .ref a18, .ref a19, .ref a20, .ref a21, .ref a22, .ref a23, .int 0, .int 0, .int 0, .int 0, .int 0, .int 0, .int 0, .ref a31]))]) [4] (by decide) rfl
    exact W.iret (v := 0) hx hb hr (fun tz_ ht hW => ⟨⟨0, (1, [.int 0, .ref a2, .ref a3, .ref a4, .ref a5, .ref a6, .ref a7, .ref a8, .ref a9, .ref a10, .ref a11, .ref a12, .ref a13, .ref a14, .ref a15, .ref a16, .ref a17, .ref a18, .ref a19, .ref a20, .ref a21, .ref a22, .ref a23, .int 0, .int 0, .int 0, .int 0, .int 0, .int 0, .int 0, .ref a31]), rfl, (Or.inr ⟨rfl, rfl, (by first | exact trivial | omega | (simp only [Int32.reduceToInt] at *; omega) | decide)⟩), (by rw [ht]; exact hP9), hD9⟩, hS.F ht⟩) hS.2.2 dX5_plain_39
set_option maxHeartbeats 4000000 in
set_option maxRecDepth 100000 in
theorem c_X5_face (l : Launch) (D : va_G) (cI cZ cJ cG : ClassId) (sz : Nat) (h0 : Nat) (a2 : Nat) (a3 : Nat) (a4 : Nat) (a5 : Nat) (a6 : Nat) (a7 : Nat) (a8 : Nat) (a9 : Nat) (a10 : Nat) (a11 : Nat) (a12 : Nat) (a13 : Nat) (a14 : Nat) (a15 : Nat) (a16 : Nat) (a17 : Nat) (a18 : Nat) (a19 : Nat) (a20 : Nat) (a21 : Nat) (a22 : Nat) (a23 : Nat) (a31 : Nat) (p0 : Int32) : Met l yX5_face (pl_h yX5_face cX5_face 2 (some .int)) ({ frames := 1, cells := 0, slots := 0, locals := 24 }) (va_Pc [.ref h0, .int p0] (pn_M D (pn_Y cI cZ cJ cG) [(h0, .inr (5, [.int 0, .int 0, .ref a2, .ref a3, .ref a4, .ref a5, .ref a6, .ref a7, .ref a8, .ref a9, .ref a10, .ref a11, .ref a12, .ref a13, .ref a14, .ref a15, .ref a16, .ref a17, .ref a18, .ref a19, .ref a20, .ref a21, .ref a22, .ref a23, .int 0, .int 0, .int 0, .int 0, .int 0, .int 0, .int 0, .ref a31])), (a2, .inl (cZ, 12, .inl (fun _ => 0))), (a4, .inl (cI, 12, .inl (fun _ => 0))), (a5, .inl (cI, 12, .inl (fun _ => 0))), (a12, .inl (cI, 12, .inl (fun _ => 0)))] sz)) (va_Qi (fun (r : Int32) (u : Int32 × List Value) => (r = 0 ∧ u.1 = 0 ∧ (0 ≤ p0.toInt ∧ p0.toInt ≤ 4095)) ∨ (r = 0 ∧ u.1 = 1 ∧ (p0.toInt < 0 ∨ 4095 < p0.toInt))) (fun u tz_ => va_P D vwCl [(h0, .inr (5, (.int u.1 :: u.2)))] tz_.heap ∧ va_D (va_A [(h0, .inr (5, [.int 0, .int 0, .ref a2, .ref a3, .ref a4, .ref a5, .ref a6, .ref a7, .ref a8, .ref a9, .ref a10, .ref a11, .ref a12, .ref a13, .ref a14, .ref a15, .ref a16, .ref a17, .ref a18, .ref a19, .ref a20, .ref a21, .ref a22, .ref a23, .int 0, .int 0, .int 0, .int 0, .int 0, .int 0, .int 0, .ref a31])), (a2, .inl (cZ, 12, .inl (fun _ => 0))), (a4, .inl (cI, 12, .inl (fun _ => 0))), (a5, .inl (cI, 12, .inl (fun _ => 0))), (a12, .inl (cI, 12, .inl (fun _ => 0)))] sz) [(h0, .inr (5, (.int u.1 :: u.2)))]) (va_A [(h0, .inr (5, [.int 0, .int 0, .ref a2, .ref a3, .ref a4, .ref a5, .ref a6, .ref a7, .ref a8, .ref a9, .ref a10, .ref a11, .ref a12, .ref a13, .ref a14, .ref a15, .ref a16, .ref a17, .ref a18, .ref a19, .ref a20, .ref a21, .ref a22, .ref a23, .int 0, .int 0, .int 0, .int 0, .int 0, .int 0, .int 0, .ref a31])), (a2, .inl (cZ, 12, .inl (fun _ => 0))), (a4, .inl (cI, 12, .inl (fun _ => 0))), (a5, .inl (cI, 12, .inl (fun _ => 0))), (a12, .inl (cI, 12, .inl (fun _ => 0)))] sz)) 0 0 (va_A [(h0, .inr (5, [.int 0, .int 0, .ref a2, .ref a3, .ref a4, .ref a5, .ref a6, .ref a7, .ref a8, .ref a9, .ref a10, .ref a11, .ref a12, .ref a13, .ref a14, .ref a15, .ref a16, .ref a17, .ref a18, .ref a19, .ref a20, .ref a21, .ref a22, .ref a23, .int 0, .int 0, .int 0, .int 0, .int 0, .int 0, .int 0, .ref a31])), (a2, .inl (cZ, 12, .inl (fun _ => 0))), (a4, .inl (cI, 12, .inl (fun _ => 0))), (a5, .inl (cI, 12, .inl (fun _ => 0))), (a12, .inl (cI, 12, .inl (fun _ => 0)))] sz) := by
  refine Met.ofW (cc := cX5_face) (maxL := 2) (ret := (some .int)) (by decide) rfl ?_
  intro p e s m args below meth c s₁ B hml hv
  obtain ⟨rfl, hsz, hP, hK, hD0⟩ := hv
  have hx := B.exec
  have hb := B.bytes
  have hr := B.returns
  have hts0 := atoms_spec (ws := pl_h yX5_face cX5_face 2 (some .int)) B.pre
  have hts := fun (w : Cond) (h : w ∈ pw_all) => hts0 w (List.mem_cons_of_mem _ h)
  have hown : s.vm.findClass RX5 = some m.cls := findClass_of_methodNamed B.named
  have hlocks := B.notSynchronized
  subst hsz
  have hD := hD0.self (sz := s.heap.size)
  generalize hAe : va_A [(h0, .inr (5, [.int 0, .int 0, .ref a2, .ref a3, .ref a4, .ref a5, .ref a6, .ref a7, .ref a8, .ref a9, .ref a10, .ref a11, .ref a12, .ref a13, .ref a14, .ref a15, .ref a16, .ref a17, .ref a18, .ref a19, .ref a20, .ref a21, .ref a22, .ref a23, .int 0, .int 0, .int 0, .int 0, .int 0, .int 0, .int 0, .ref a31])), (a2, .inl (cZ, 12, .inl (fun _ => 0))), (a4, .inl (cI, 12, .inl (fun _ => 0))), (a5, .inl (cI, 12, .inl (fun _ => 0))), (a12, .inl (cI, 12, .inl (fun _ => 0)))] s.heap.size = A at hD ⊢
  have hA : ∀ q : Nat, s.heap.size ≤ q → A q := fun q h => by rw [← hAe]; exact Or.inr h
  have hS : va_S A s.heap s.heap [] := va_S.rf
  have hl := lv_entry ([.ref h0, .int p0]) (n := 2) (Nat.le_of_ble_eq_true rfl)
  rw [lg_entry_eq]
  generalize (lg_sl ([.ref h0, .int p0]) ++ List.replicate (2 - (lg_sl ([.ref h0, .int p0])).length) Slot.unset).toArray = ls at hl ⊢
  have hl : lv_has ls 2 [(0, .ref h0), (1, .int p0)] := hl
  refine lv_aload_n hx hb dX5_face_0 rfl (lv_at hl 0 rfl) ?_
  refine lv_iconst (v := 0) hx hb dX5_face_1 (by decide) ?_
  refine va_put (D := D) (ci := 5) (v := .int 0) (ty := .int) (C := RX5) (T := TX5) (N := 32) hx hb hts inlX5 tyX5 tyX5_ok nmX5 hown hK hP hD hS 0 rfl rfl 0 (by decide) (hts (.fieldLink RX5 80 "VtableTownModel" "thrown" "I") (pl_m 137 (by decide +kernel))) (fun _ h9 => h9) rfl (by decide +kernel) rfl rfl (Nat.le_of_ble_eq_true rfl) dX5_face_2 (fun H locs hP hD hS => ?_)
  have hP : va_P D vwCl [(h0, .inr (5, [.int 0, .int 0, .ref a2, .ref a3, .ref a4, .ref a5, .ref a6, .ref a7, .ref a8, .ref a9, .ref a10, .ref a11, .ref a12, .ref a13, .ref a14, .ref a15, .ref a16, .ref a17, .ref a18, .ref a19, .ref a20, .ref a21, .ref a22, .ref a23, .int 0, .int 0, .int 0, .int 0, .int 0, .int 0, .int 0, .ref a31])), (a2, .inl (cZ, 12, .inl (fun _ => 0))), (a4, .inl (cI, 12, .inl (fun _ => 0))), (a5, .inl (cI, 12, .inl (fun _ => 0))), (a12, .inl (cI, 12, .inl (fun _ => 0)))] H := hP
  have hD : va_D (A) [(h0, .inr (5, [.int 0, .int 0, .ref a2, .ref a3, .ref a4, .ref a5, .ref a6, .ref a7, .ref a8, .ref a9, .ref a10, .ref a11, .ref a12, .ref a13, .ref a14, .ref a15, .ref a16, .ref a17, .ref a18, .ref a19, .ref a20, .ref a21, .ref a22, .ref a23, .int 0, .int 0, .int 0, .int 0, .int 0, .int 0, .int 0, .ref a31])), (a2, .inl (cZ, 12, .inl (fun _ => 0))), (a4, .inl (cI, 12, .inl (fun _ => 0))), (a5, .inl (cI, 12, .inl (fun _ => 0))), (a12, .inl (cI, 12, .inl (fun _ => 0)))] := hD
  refine lv_iload_n hx hb dX5_face_5 rfl (lv_at hl 1 rfl) ?_
  refine lv_iconst (v := 0) hx hb dX5_face_6 (by decide) ?_
  refine lv_sipush (v := 4095) hx hb dX5_face_7 (by decide) ?_
  have hPc := hP.sub (ws' := []) [] rfl
  refine pn_ci (va_runS (As := [.int p0, .int 0, .int 4095]) (rest := []) ⟨hx, hb, hml, hown, hts⟩ (c_X5_isIn l D cI cZ cJ cG H.size p0 0 4095) (va_cwS 3 hts (pl_S (pl_m 139 (by decide +kernel)) (pl_m 140 (by decide +kernel)) (pl_m 5 (by decide +kernel)) (pl_m 141 (by decide +kernel))) rfl rfl rfl (by decide +kernel) ⟨(Nat.le_of_ble_eq_true rfl), (Nat.le_of_ble_eq_true rfl)⟩) ⟨pn_B_blind, (pn_B_at hPc hK)⟩ rfl rfl hl.1 rfl (lv_room (Nat.le_of_ble_eq_true rfl)) dX5_face_10 ⟨(Nat.le_of_ble_eq_true rfl), (Nat.le_of_ble_eq_true rfl)⟩) hS hA hP (fun r_1 H locs hw hP hS => ?_)
  have hP : va_P D vwCl [(h0, .inr (5, [.int 0, .int 0, .ref a2, .ref a3, .ref a4, .ref a5, .ref a6, .ref a7, .ref a8, .ref a9, .ref a10, .ref a11, .ref a12, .ref a13, .ref a14, .ref a15, .ref a16, .ref a17, .ref a18, .ref a19, .ref a20, .ref a21, .ref a22, .ref a23, .int 0, .int 0, .int 0, .int 0, .int 0, .int 0, .int 0, .ref a31])), (a2, .inl (cZ, 12, .inl (fun _ => 0))), (a4, .inl (cI, 12, .inl (fun _ => 0))), (a5, .inl (cI, 12, .inl (fun _ => 0))), (a12, .inl (cI, 12, .inl (fun _ => 0)))] H := hP
  rcases hw with ⟨rfl, hw⟩ | ⟨rfl, hw⟩
  · try simp only [Int32.reduceToInt] at hw
    have hw_2 := hw
    refine lv_if_ne (tgt := 22) hx hb dX5_face_13 (by decide) (fun _ => ?_) (fun h9 => absurd h9 (by decide))
    refine lv_aload_n hx hb dX5_face_22 rfl (lv_at hl 0 rfl) ?_
    refine va_get (D := D) (ci := 5) (v := .int 0) (C := RX5) (T := TX5) (N := 32) hx hb hts inlX5 hown hK hP 0 rfl rfl 1 (by decide) (hts (.fieldLink RX5 84 "VtableTownModel" "classes" "I") (pl_m 138 (by decide +kernel))) (fun _ h9 => h9) rfl dX5_face_23 ?_
    refine lv_bipush (v := 12) hx hb dX5_face_26 (by decide) ?_
    refine lv_icmp_ne (tgt := 39) hx hb dX5_face_28 (by decide) (fun _ => ?_) (fun h9 => absurd h9 (by decide))
    refine lv_aload_n hx hb dX5_face_39 rfl (lv_at hl 0 rfl) ?_
    refine lv_iconst (v := 1) hx hb dX5_face_40 (by decide) ?_
    refine lv_iconst (v := (-1)) hx hb dX5_face_41 (by decide) ?_
    refine lv_iload_n hx hb dX5_face_42 rfl (lv_at hl 1 rfl) ?_
    have hPc := hP.sub (ws' := [(h0, .inr (5, [.int 0, .int 0, .ref a2, .ref a3, .ref a4, .ref a5, .ref a6, .ref a7, .ref a8, .ref a9, .ref a10, .ref a11, .ref a12, .ref a13, .ref a14, .ref a15, .ref a16, .ref a17, .ref a18, .ref a19, .ref a20, .ref a21, .ref a22, .ref a23, .int 0, .int 0, .int 0, .int 0, .int 0, .int 0, .int 0, .ref a31])), (a2, .inl (cZ, 12, .inl (fun _ => 0))), (a4, .inl (cI, 12, .inl (fun _ => 0))), (a5, .inl (cI, 12, .inl (fun _ => 0))), (a12, .inl (cI, 12, .inl (fun _ => 0)))]) [0, 1, 2, 3, 4] rfl
    have hDc := hD.sub (ws' := [(h0, .inr (5, [.int 0, .int 0, .ref a2, .ref a3, .ref a4, .ref a5, .ref a6, .ref a7, .ref a8, .ref a9, .ref a10, .ref a11, .ref a12, .ref a13, .ref a14, .ref a15, .ref a16, .ref a17, .ref a18, .ref a19, .ref a20, .ref a21, .ref a22, .ref a23, .int 0, .int 0, .int 0, .int 0, .int 0, .int 0, .int 0, .ref a31])), (a2, .inl (cZ, 12, .inl (fun _ => 0))), (a4, .inl (cI, 12, .inl (fun _ => 0))), (a5, .inl (cI, 12, .inl (fun _ => 0))), (a12, .inl (cI, 12, .inl (fun _ => 0)))]) [0, 1, 2, 3, 4] (by decide) rfl
    refine pn_mi (w1 := fun (u : Unit) => [(h0, .inr (5, [.int 0, .int 1, .ref a2, .ref a3, .ref a4, .ref a5, .ref a6, .ref a7, .ref a8, .ref a9, .ref a10, .ref a11, .ref a12, .ref a13, .ref a14, .ref a15, .ref a16, .ref a17, .ref a18, .ref a19, .ref a20, .ref a21, .ref a22, .ref a23, .int 0, .int 0, .int 0, .int 0, .int 0, .int 0, .int 0, .ref a31]))]) (wr := []) (wc := [(h0, .inr (5, [.int 0, .int 0, .ref a2, .ref a3, .ref a4, .ref a5, .ref a6, .ref a7, .ref a8, .ref a9, .ref a10, .ref a11, .ref a12, .ref a13, .ref a14, .ref a15, .ref a16, .ref a17, .ref a18, .ref a19, .ref a20, .ref a21, .ref a22, .ref a23, .int 0, .int 0, .int 0, .int 0, .int 0, .int 0, .int 0, .ref a31])), (a2, .inl (cZ, 12, .inl (fun _ => 0))), (a4, .inl (cI, 12, .inl (fun _ => 0))), (a5, .inl (cI, 12, .inl (fun _ => 0))), (a12, .inl (cI, 12, .inl (fun _ => 0)))]) [0, 1, 2, 3, 4] [] (va_runV (As := [.int 1, .int (-1), .int p0]) (rest := []) ⟨hx, hb, hml, hown, hts⟩ (c_X5_tell l D cI cZ cJ cG H.size h0 a2 a3 a4 a5 a6 a7 a8 a9 a10 a11 a12 a13 a14 a15 a16 a17 a18 a19 a20 a21 a22 a23 a31 0 1 (-1) p0) (cwV 3 hts (pl_V (pl_m 146 (by decide +kernel)) (pl_m 147 (by decide +kernel)) (pl_m 148 (by decide +kernel)) (pl_m 5 (by decide +kernel)) (pl_m 149 (by decide +kernel))) rfl rfl rfl (by decide +kernel) ⟨(Nat.le_of_ble_eq_true rfl), (Nat.le_of_ble_eq_true rfl)⟩) ⟨pn_M_blind, va_recv hK hPc (ci := 5) (q0 := 0) rfl rfl, (pn_M_at hPc hDc hK)⟩ rfl rfl hl.1 rfl (lv_room (Nat.le_of_ble_eq_true rfl)) dX5_face_43 ⟨(Nat.le_of_ble_eq_true rfl), (Nat.le_of_ble_eq_true rfl)⟩) hS hA hP hD rfl rfl (by decide) (by decide) (fun r_3 u_3 H locs hw hP hD hS => ?_)
    have hP : va_P D vwCl [(h0, .inr (5, [.int 0, .int 1, .ref a2, .ref a3, .ref a4, .ref a5, .ref a6, .ref a7, .ref a8, .ref a9, .ref a10, .ref a11, .ref a12, .ref a13, .ref a14, .ref a15, .ref a16, .ref a17, .ref a18, .ref a19, .ref a20, .ref a21, .ref a22, .ref a23, .int 0, .int 0, .int 0, .int 0, .int 0, .int 0, .int 0, .ref a31]))] H := hP
    have hD : va_D (A) [(h0, .inr (5, [.int 0, .int 1, .ref a2, .ref a3, .ref a4, .ref a5, .ref a6, .ref a7, .ref a8, .ref a9, .ref a10, .ref a11, .ref a12, .ref a13, .ref a14, .ref a15, .ref a16, .ref a17, .ref a18, .ref a19, .ref a20, .ref a21, .ref a22, .ref a23, .int 0, .int 0, .int 0, .int 0, .int 0, .int 0, .int 0, .ref a31]))] := hD
    obtain ⟨rfl, hw⟩ := hw
    try simp only [Int32.reduceToInt] at hw
    have hP9 := hP.sub (ws' := [(h0, .inr (5, [.int 0, .int 1, .ref a2, .ref a3, .ref a4, .ref a5, .ref a6, .ref a7, .ref a8, .ref a9, .ref a10, .ref a11, .ref a12, .ref a13, .ref a14, .ref a15, .ref a16, .ref a17, .ref a18, .ref a19, .ref a20, .ref a21, .ref a22, .ref a23, .int 0, .int 0, .int 0, .int 0, .int 0, .int 0, .int 0, .ref a31]))]) [0] rfl
    have hD9 := hD.sub (ws' := [(h0, .inr (5, [.int 0, .int 1, .ref a2, .ref a3, .ref a4, .ref a5, .ref a6, .ref a7, .ref a8, .ref a9, .ref a10, .ref a11, .ref a12, .ref a13, .ref a14, .ref a15, .ref a16, .ref a17, .ref a18, .ref a19, .ref a20, .ref a21, .ref a22, .ref a23, .int 0, .int 0, .int 0, .int 0, .int 0, .int 0, .int 0, .ref a31]))]) [0] (by decide) rfl
    exact W.iret (v := 0) hx hb hr (fun tz_ ht hW => ⟨⟨0, (0, [.int 1, .ref a2, .ref a3, .ref a4, .ref a5, .ref a6, .ref a7, .ref a8, .ref a9, .ref a10, .ref a11, .ref a12, .ref a13, .ref a14, .ref a15, .ref a16, .ref a17, .ref a18, .ref a19, .ref a20, .ref a21, .ref a22, .ref a23, .int 0, .int 0, .int 0, .int 0, .int 0, .int 0, .int 0, .ref a31]), rfl, (Or.inl ⟨rfl, rfl, (by first | exact trivial | omega | (simp only [Int32.reduceToInt] at *; omega) | decide)⟩), (by rw [ht]; exact hP9), hD9⟩, hS.F ht⟩) hS.2.2 dX5_face_46
  · try simp only [Int32.reduceToInt] at hw
    have hw_4 := hw
    refine lv_if_ne (tgt := 22) hx hb dX5_face_13 (by decide) (fun h9 => absurd (by decide) h9) (fun _ => ?_)
    refine lv_aload_n hx hb dX5_face_16 rfl (lv_at hl 0 rfl) ?_
    refine lv_iconst (v := 1) hx hb dX5_face_17 (by decide) ?_
    have hPc := hP.sub (ws' := [(h0, .inr (5, [.int 0, .int 0, .ref a2, .ref a3, .ref a4, .ref a5, .ref a6, .ref a7, .ref a8, .ref a9, .ref a10, .ref a11, .ref a12, .ref a13, .ref a14, .ref a15, .ref a16, .ref a17, .ref a18, .ref a19, .ref a20, .ref a21, .ref a22, .ref a23, .int 0, .int 0, .int 0, .int 0, .int 0, .int 0, .int 0, .ref a31]))]) [0] rfl
    have hDc := hD.sub (ws' := [(h0, .inr (5, [.int 0, .int 0, .ref a2, .ref a3, .ref a4, .ref a5, .ref a6, .ref a7, .ref a8, .ref a9, .ref a10, .ref a11, .ref a12, .ref a13, .ref a14, .ref a15, .ref a16, .ref a17, .ref a18, .ref a19, .ref a20, .ref a21, .ref a22, .ref a23, .int 0, .int 0, .int 0, .int 0, .int 0, .int 0, .int 0, .ref a31]))]) [0] (by decide) rfl
    refine pn_mi (w1 := fun (u : Unit) => [(h0, .inr (5, [.int 1, .int 0, .ref a2, .ref a3, .ref a4, .ref a5, .ref a6, .ref a7, .ref a8, .ref a9, .ref a10, .ref a11, .ref a12, .ref a13, .ref a14, .ref a15, .ref a16, .ref a17, .ref a18, .ref a19, .ref a20, .ref a21, .ref a22, .ref a23, .int 0, .int 0, .int 0, .int 0, .int 0, .int 0, .int 0, .ref a31]))]) (wr := [(a2, .inl (cZ, 12, .inl (fun _ => 0))), (a4, .inl (cI, 12, .inl (fun _ => 0))), (a5, .inl (cI, 12, .inl (fun _ => 0))), (a12, .inl (cI, 12, .inl (fun _ => 0)))]) (wc := [(h0, .inr (5, [.int 0, .int 0, .ref a2, .ref a3, .ref a4, .ref a5, .ref a6, .ref a7, .ref a8, .ref a9, .ref a10, .ref a11, .ref a12, .ref a13, .ref a14, .ref a15, .ref a16, .ref a17, .ref a18, .ref a19, .ref a20, .ref a21, .ref a22, .ref a23, .int 0, .int 0, .int 0, .int 0, .int 0, .int 0, .int 0, .ref a31]))]) [0] [1, 2, 3, 4] (va_runV (As := [.int 1]) (rest := []) ⟨hx, hb, hml, hown, hts⟩ (c_X5_no l D cI cZ cJ cG H.size h0 a2 a3 a4 a5 a6 a7 a8 a9 a10 a11 a12 a13 a14 a15 a16 a17 a18 a19 a20 a21 a22 a23 a31 0 1) (cwV 1 hts (pl_V (pl_m 142 (by decide +kernel)) (pl_m 143 (by decide +kernel)) (pl_m 144 (by decide +kernel)) (pl_m 5 (by decide +kernel)) (pl_m 145 (by decide +kernel))) rfl rfl rfl (by decide +kernel) ⟨(Nat.le_of_ble_eq_true rfl), (Nat.le_of_ble_eq_true rfl)⟩) ⟨pn_M_blind, va_recv hK hPc (ci := 5) (q0 := 0) rfl rfl, (pn_M_at hPc hDc hK)⟩ rfl rfl hl.1 rfl (lv_room (Nat.le_of_ble_eq_true rfl)) dX5_face_18 ⟨(Nat.le_of_ble_eq_true rfl), (Nat.le_of_ble_eq_true rfl)⟩) hS hA hP hD rfl rfl (by decide) (by decide) (fun r_5 u_5 H locs hw hP hD hS => ?_)
    have hP : va_P D vwCl [(a2, .inl (cZ, 12, .inl (fun _ => 0))), (a4, .inl (cI, 12, .inl (fun _ => 0))), (a5, .inl (cI, 12, .inl (fun _ => 0))), (a12, .inl (cI, 12, .inl (fun _ => 0))), (h0, .inr (5, [.int 1, .int 0, .ref a2, .ref a3, .ref a4, .ref a5, .ref a6, .ref a7, .ref a8, .ref a9, .ref a10, .ref a11, .ref a12, .ref a13, .ref a14, .ref a15, .ref a16, .ref a17, .ref a18, .ref a19, .ref a20, .ref a21, .ref a22, .ref a23, .int 0, .int 0, .int 0, .int 0, .int 0, .int 0, .int 0, .ref a31]))] H := hP
    have hD : va_D (A) [(a2, .inl (cZ, 12, .inl (fun _ => 0))), (a4, .inl (cI, 12, .inl (fun _ => 0))), (a5, .inl (cI, 12, .inl (fun _ => 0))), (a12, .inl (cI, 12, .inl (fun _ => 0))), (h0, .inr (5, [.int 1, .int 0, .ref a2, .ref a3, .ref a4, .ref a5, .ref a6, .ref a7, .ref a8, .ref a9, .ref a10, .ref a11, .ref a12, .ref a13, .ref a14, .ref a15, .ref a16, .ref a17, .ref a18, .ref a19, .ref a20, .ref a21, .ref a22, .ref a23, .int 0, .int 0, .int 0, .int 0, .int 0, .int 0, .int 0, .ref a31]))] := hD
    obtain ⟨rfl, hw⟩ := hw
    try simp only [Int32.reduceToInt] at hw
    have hP9 := hP.sub (ws' := [(h0, .inr (5, [.int 1, .int 0, .ref a2, .ref a3, .ref a4, .ref a5, .ref a6, .ref a7, .ref a8, .ref a9, .ref a10, .ref a11, .ref a12, .ref a13, .ref a14, .ref a15, .ref a16, .ref a17, .ref a18, .ref a19, .ref a20, .ref a21, .ref a22, .ref a23, .int 0, .int 0, .int 0, .int 0, .int 0, .int 0, .int 0, .ref a31]))]) [4] rfl
    have hD9 := hD.sub (ws' := [(h0, .inr (5, [.int 1, .int 0, .ref a2, .ref a3, .ref a4, .ref a5, .ref a6, .ref a7, .ref a8, .ref a9, .ref a10, .ref a11, .ref a12, .ref a13, .ref a14, .ref a15, .ref a16, .ref a17, .ref a18, .ref a19, .ref a20, .ref a21, .ref a22, .ref a23, .int 0, .int 0, .int 0, .int 0, .int 0, .int 0, .int 0, .ref a31]))]) [4] (by decide) rfl
    exact W.iret (v := 0) hx hb hr (fun tz_ ht hW => ⟨⟨0, (1, [.int 0, .ref a2, .ref a3, .ref a4, .ref a5, .ref a6, .ref a7, .ref a8, .ref a9, .ref a10, .ref a11, .ref a12, .ref a13, .ref a14, .ref a15, .ref a16, .ref a17, .ref a18, .ref a19, .ref a20, .ref a21, .ref a22, .ref a23, .int 0, .int 0, .int 0, .int 0, .int 0, .int 0, .int 0, .ref a31]), rfl, (Or.inr ⟨rfl, rfl, (by first | exact trivial | omega | (simp only [Int32.reduceToInt] at *; omega) | decide)⟩), (by rw [ht]; exact hP9), hD9⟩, hS.F ht⟩) hS.2.2 dX5_face_21
set_option maxHeartbeats 4000000 in
set_option maxRecDepth 100000 in
theorem c_X5_method (l : Launch) (D : va_G) (cI cZ cJ cG : ClassId) (sz : Nat) (h0 : Nat) (a2 : Nat) (a3 : Nat) (a4 : Nat) (a5 : Nat) (a6 : Nat) (a7 : Nat) (a8 : Nat) (a9 : Nat) (a10 : Nat) (a11 : Nat) (a12 : Nat) (a13 : Nat) (a14 : Nat) (a15 : Nat) (a16 : Nat) (a17 : Nat) (a18 : Nat) (a19 : Nat) (a20 : Nat) (a21 : Nat) (a22 : Nat) (a23 : Nat) (a31 : Nat) (p0 : Int32) (p1 : Int32) : Met l yX5_method (pl_h yX5_method cX5_method 3 (some .int)) ({ frames := 2, cells := 0, slots := 0, locals := 43 }) (va_Pc [.ref h0, .int p0, .int p1] (pn_M D (pn_Y cI cZ cJ cG) [(h0, .inr (5, [.int 0, .int 0, .ref a2, .ref a3, .ref a4, .ref a5, .ref a6, .ref a7, .ref a8, .ref a9, .ref a10, .ref a11, .ref a12, .ref a13, .ref a14, .ref a15, .ref a16, .ref a17, .ref a18, .ref a19, .ref a20, .ref a21, .ref a22, .ref a23, .int 0, .int 0, .int 0, .int 0, .int 0, .int 0, .int 0, .ref a31]))] sz)) (va_Qi (fun (r : Int32) (u : Int32 × List Value) => (r = 0 ∧ u.1 = 1 ∧ True)) (fun u tz_ => va_P D vwCl [(h0, .inr (5, (.int u.1 :: u.2)))] tz_.heap ∧ va_D (va_A [(h0, .inr (5, [.int 0, .int 0, .ref a2, .ref a3, .ref a4, .ref a5, .ref a6, .ref a7, .ref a8, .ref a9, .ref a10, .ref a11, .ref a12, .ref a13, .ref a14, .ref a15, .ref a16, .ref a17, .ref a18, .ref a19, .ref a20, .ref a21, .ref a22, .ref a23, .int 0, .int 0, .int 0, .int 0, .int 0, .int 0, .int 0, .ref a31]))] sz) [(h0, .inr (5, (.int u.1 :: u.2)))]) (va_A [(h0, .inr (5, [.int 0, .int 0, .ref a2, .ref a3, .ref a4, .ref a5, .ref a6, .ref a7, .ref a8, .ref a9, .ref a10, .ref a11, .ref a12, .ref a13, .ref a14, .ref a15, .ref a16, .ref a17, .ref a18, .ref a19, .ref a20, .ref a21, .ref a22, .ref a23, .int 0, .int 0, .int 0, .int 0, .int 0, .int 0, .int 0, .ref a31]))] sz)) 0 0 (va_A [(h0, .inr (5, [.int 0, .int 0, .ref a2, .ref a3, .ref a4, .ref a5, .ref a6, .ref a7, .ref a8, .ref a9, .ref a10, .ref a11, .ref a12, .ref a13, .ref a14, .ref a15, .ref a16, .ref a17, .ref a18, .ref a19, .ref a20, .ref a21, .ref a22, .ref a23, .int 0, .int 0, .int 0, .int 0, .int 0, .int 0, .int 0, .ref a31]))] sz) := by
  refine Met.ofW (cc := cX5_method) (maxL := 3) (ret := (some .int)) (by decide) rfl ?_
  intro p e s m args below meth c s₁ B hml hv
  obtain ⟨rfl, hsz, hP, hK, hD0⟩ := hv
  have hx := B.exec
  have hb := B.bytes
  have hr := B.returns
  have hts0 := atoms_spec (ws := pl_h yX5_method cX5_method 3 (some .int)) B.pre
  have hts := fun (w : Cond) (h : w ∈ pw_all) => hts0 w (List.mem_cons_of_mem _ h)
  have hown : s.vm.findClass RX5 = some m.cls := findClass_of_methodNamed B.named
  have hlocks := B.notSynchronized
  subst hsz
  have hD := hD0.self (sz := s.heap.size)
  generalize hAe : va_A [(h0, .inr (5, [.int 0, .int 0, .ref a2, .ref a3, .ref a4, .ref a5, .ref a6, .ref a7, .ref a8, .ref a9, .ref a10, .ref a11, .ref a12, .ref a13, .ref a14, .ref a15, .ref a16, .ref a17, .ref a18, .ref a19, .ref a20, .ref a21, .ref a22, .ref a23, .int 0, .int 0, .int 0, .int 0, .int 0, .int 0, .int 0, .ref a31]))] s.heap.size = A at hD ⊢
  have hA : ∀ q : Nat, s.heap.size ≤ q → A q := fun q h => by rw [← hAe]; exact Or.inr h
  have hS : va_S A s.heap s.heap [] := va_S.rf
  have hl := lv_entry ([.ref h0, .int p0, .int p1]) (n := 3) (Nat.le_of_ble_eq_true rfl)
  rw [lg_entry_eq]
  generalize (lg_sl ([.ref h0, .int p0, .int p1]) ++ List.replicate (3 - (lg_sl ([.ref h0, .int p0, .int p1])).length) Slot.unset).toArray = ls at hl ⊢
  have hl : lv_has ls 3 [(0, .ref h0), (1, .int p0), (2, .int p1)] := hl
  refine lv_aload_n hx hb dX5_method_0 rfl (lv_at hl 0 rfl) ?_
  refine lv_iconst (v := 0) hx hb dX5_method_1 (by decide) ?_
  refine va_put (D := D) (ci := 5) (v := .int 0) (ty := .int) (C := RX5) (T := TX5) (N := 32) hx hb hts inlX5 tyX5 tyX5_ok nmX5 hown hK hP hD hS 0 rfl rfl 0 (by decide) (hts (.fieldLink RX5 80 "VtableTownModel" "thrown" "I") (pl_m 137 (by decide +kernel))) (fun _ h9 => h9) rfl (by decide +kernel) rfl rfl (Nat.le_of_ble_eq_true rfl) dX5_method_2 (fun H locs hP hD hS => ?_)
  have hP : va_P D vwCl [(h0, .inr (5, [.int 0, .int 0, .ref a2, .ref a3, .ref a4, .ref a5, .ref a6, .ref a7, .ref a8, .ref a9, .ref a10, .ref a11, .ref a12, .ref a13, .ref a14, .ref a15, .ref a16, .ref a17, .ref a18, .ref a19, .ref a20, .ref a21, .ref a22, .ref a23, .int 0, .int 0, .int 0, .int 0, .int 0, .int 0, .int 0, .ref a31]))] H := hP
  have hD : va_D (A) [(h0, .inr (5, [.int 0, .int 0, .ref a2, .ref a3, .ref a4, .ref a5, .ref a6, .ref a7, .ref a8, .ref a9, .ref a10, .ref a11, .ref a12, .ref a13, .ref a14, .ref a15, .ref a16, .ref a17, .ref a18, .ref a19, .ref a20, .ref a21, .ref a22, .ref a23, .int 0, .int 0, .int 0, .int 0, .int 0, .int 0, .int 0, .ref a31]))] := hD
  refine lv_aload_n hx hb dX5_method_5 rfl (lv_at hl 0 rfl) ?_
  refine lv_iload_n hx hb dX5_method_6 rfl (lv_at hl 1 rfl) ?_
  have hPc := hP.sub (ws' := [(h0, .inr (5, [.int 0, .int 0, .ref a2, .ref a3, .ref a4, .ref a5, .ref a6, .ref a7, .ref a8, .ref a9, .ref a10, .ref a11, .ref a12, .ref a13, .ref a14, .ref a15, .ref a16, .ref a17, .ref a18, .ref a19, .ref a20, .ref a21, .ref a22, .ref a23, .int 0, .int 0, .int 0, .int 0, .int 0, .int 0, .int 0, .ref a31]))]) [0] rfl
  refine pn_ci (va_runV (As := [.int p0]) (rest := []) ⟨hx, hb, hml, hown, hts⟩ (c_X5_isTold l D cI cZ cJ cG H.size h0 0 ([.ref a2, .ref a3, .ref a4, .ref a5, .ref a6, .ref a7, .ref a8, .ref a9, .ref a10, .ref a11, .ref a12, .ref a13, .ref a14, .ref a15, .ref a16, .ref a17, .ref a18, .ref a19, .ref a20, .ref a21, .ref a22, .ref a23, .int 0, .int 0, .int 0, .int 0, .int 0, .int 0, .int 0, .ref a31]) p0) (cwV 1 hts (pl_V (pl_m 203 (by decide +kernel)) (pl_m 204 (by decide +kernel)) (pl_m 205 (by decide +kernel)) (pl_m 5 (by decide +kernel)) (pl_m 206 (by decide +kernel))) rfl rfl rfl (by decide +kernel) ⟨(Nat.le_of_ble_eq_true rfl), (Nat.le_of_ble_eq_true rfl)⟩) ⟨pn_B_blind, va_recv hK hPc (ci := 5) (q0 := 0) rfl rfl, (pn_B_at hPc hK)⟩ rfl rfl hl.1 rfl (lv_room (Nat.le_of_ble_eq_true rfl)) dX5_method_7 ⟨(Nat.le_of_ble_eq_true rfl), (Nat.le_of_ble_eq_true rfl)⟩) hS hA hP (fun r_1 H locs hw hP hS => ?_)
  have hP : va_P D vwCl [(h0, .inr (5, [.int 0, .int 0, .ref a2, .ref a3, .ref a4, .ref a5, .ref a6, .ref a7, .ref a8, .ref a9, .ref a10, .ref a11, .ref a12, .ref a13, .ref a14, .ref a15, .ref a16, .ref a17, .ref a18, .ref a19, .ref a20, .ref a21, .ref a22, .ref a23, .int 0, .int 0, .int 0, .int 0, .int 0, .int 0, .int 0, .ref a31]))] H := hP
  obtain ⟨rfl, hw⟩ := hw
  try simp only [Int32.reduceToInt] at hw
  refine lv_if_eq (tgt := 22) hx hb dX5_method_10 (by decide) (fun _ => ?_) (fun h9 => absurd (by decide) h9)
  refine lv_aload_n hx hb dX5_method_22 rfl (lv_at hl 0 rfl) ?_
  refine lv_iconst (v := 1) hx hb dX5_method_23 (by decide) ?_
  have hPc := hP.sub (ws' := [(h0, .inr (5, [.int 0, .int 0, .ref a2, .ref a3, .ref a4, .ref a5, .ref a6, .ref a7, .ref a8, .ref a9, .ref a10, .ref a11, .ref a12, .ref a13, .ref a14, .ref a15, .ref a16, .ref a17, .ref a18, .ref a19, .ref a20, .ref a21, .ref a22, .ref a23, .int 0, .int 0, .int 0, .int 0, .int 0, .int 0, .int 0, .ref a31]))]) [0] rfl
  have hDc := hD.sub (ws' := [(h0, .inr (5, [.int 0, .int 0, .ref a2, .ref a3, .ref a4, .ref a5, .ref a6, .ref a7, .ref a8, .ref a9, .ref a10, .ref a11, .ref a12, .ref a13, .ref a14, .ref a15, .ref a16, .ref a17, .ref a18, .ref a19, .ref a20, .ref a21, .ref a22, .ref a23, .int 0, .int 0, .int 0, .int 0, .int 0, .int 0, .int 0, .ref a31]))]) [0] (by decide) rfl
  refine pn_mi (w1 := fun (u : Unit) => [(h0, .inr (5, [.int 1, .int 0, .ref a2, .ref a3, .ref a4, .ref a5, .ref a6, .ref a7, .ref a8, .ref a9, .ref a10, .ref a11, .ref a12, .ref a13, .ref a14, .ref a15, .ref a16, .ref a17, .ref a18, .ref a19, .ref a20, .ref a21, .ref a22, .ref a23, .int 0, .int 0, .int 0, .int 0, .int 0, .int 0, .int 0, .ref a31]))]) (wr := []) (wc := [(h0, .inr (5, [.int 0, .int 0, .ref a2, .ref a3, .ref a4, .ref a5, .ref a6, .ref a7, .ref a8, .ref a9, .ref a10, .ref a11, .ref a12, .ref a13, .ref a14, .ref a15, .ref a16, .ref a17, .ref a18, .ref a19, .ref a20, .ref a21, .ref a22, .ref a23, .int 0, .int 0, .int 0, .int 0, .int 0, .int 0, .int 0, .ref a31]))]) [0] [] (va_runV (As := [.int 1]) (rest := []) ⟨hx, hb, hml, hown, hts⟩ (c_X5_no l D cI cZ cJ cG H.size h0 a2 a3 a4 a5 a6 a7 a8 a9 a10 a11 a12 a13 a14 a15 a16 a17 a18 a19 a20 a21 a22 a23 a31 0 1) (cwV 1 hts (pl_V (pl_m 142 (by decide +kernel)) (pl_m 143 (by decide +kernel)) (pl_m 144 (by decide +kernel)) (pl_m 5 (by decide +kernel)) (pl_m 145 (by decide +kernel))) rfl rfl rfl (by decide +kernel) ⟨(Nat.le_of_ble_eq_true rfl), (Nat.le_of_ble_eq_true rfl)⟩) ⟨pn_M_blind, va_recv hK hPc (ci := 5) (q0 := 0) rfl rfl, (pn_M_at hPc hDc hK)⟩ rfl rfl hl.1 rfl (lv_room (Nat.le_of_ble_eq_true rfl)) dX5_method_24 ⟨(Nat.le_of_ble_eq_true rfl), (Nat.le_of_ble_eq_true rfl)⟩) hS hA hP hD rfl rfl (by decide) (by decide) (fun r_2 u_2 H locs hw hP hD hS => ?_)
  have hP : va_P D vwCl [(h0, .inr (5, [.int 1, .int 0, .ref a2, .ref a3, .ref a4, .ref a5, .ref a6, .ref a7, .ref a8, .ref a9, .ref a10, .ref a11, .ref a12, .ref a13, .ref a14, .ref a15, .ref a16, .ref a17, .ref a18, .ref a19, .ref a20, .ref a21, .ref a22, .ref a23, .int 0, .int 0, .int 0, .int 0, .int 0, .int 0, .int 0, .ref a31]))] H := hP
  have hD : va_D (A) [(h0, .inr (5, [.int 1, .int 0, .ref a2, .ref a3, .ref a4, .ref a5, .ref a6, .ref a7, .ref a8, .ref a9, .ref a10, .ref a11, .ref a12, .ref a13, .ref a14, .ref a15, .ref a16, .ref a17, .ref a18, .ref a19, .ref a20, .ref a21, .ref a22, .ref a23, .int 0, .int 0, .int 0, .int 0, .int 0, .int 0, .int 0, .ref a31]))] := hD
  obtain ⟨rfl, hw⟩ := hw
  try simp only [Int32.reduceToInt] at hw
  have hP9 := hP.sub (ws' := [(h0, .inr (5, [.int 1, .int 0, .ref a2, .ref a3, .ref a4, .ref a5, .ref a6, .ref a7, .ref a8, .ref a9, .ref a10, .ref a11, .ref a12, .ref a13, .ref a14, .ref a15, .ref a16, .ref a17, .ref a18, .ref a19, .ref a20, .ref a21, .ref a22, .ref a23, .int 0, .int 0, .int 0, .int 0, .int 0, .int 0, .int 0, .ref a31]))]) [0] rfl
  have hD9 := hD.sub (ws' := [(h0, .inr (5, [.int 1, .int 0, .ref a2, .ref a3, .ref a4, .ref a5, .ref a6, .ref a7, .ref a8, .ref a9, .ref a10, .ref a11, .ref a12, .ref a13, .ref a14, .ref a15, .ref a16, .ref a17, .ref a18, .ref a19, .ref a20, .ref a21, .ref a22, .ref a23, .int 0, .int 0, .int 0, .int 0, .int 0, .int 0, .int 0, .ref a31]))]) [0] (by decide) rfl
  exact W.iret (v := 0) hx hb hr (fun tz_ ht hW => ⟨⟨0, (1, [.int 0, .ref a2, .ref a3, .ref a4, .ref a5, .ref a6, .ref a7, .ref a8, .ref a9, .ref a10, .ref a11, .ref a12, .ref a13, .ref a14, .ref a15, .ref a16, .ref a17, .ref a18, .ref a19, .ref a20, .ref a21, .ref a22, .ref a23, .int 0, .int 0, .int 0, .int 0, .int 0, .int 0, .int 0, .ref a31]), rfl, ⟨rfl, rfl, (by first | exact trivial | omega | (simp only [Int32.reduceToInt] at *; omega) | decide)⟩, (by rw [ht]; exact hP9), hD9⟩, hS.F ht⟩) hS.2.2 dX5_method_27
set_option maxHeartbeats 4000000 in
set_option maxRecDepth 100000 in
theorem c_X5_open (l : Launch) (D : va_G) (cI cZ cJ cG : ClassId) (sz : Nat) (h0 : Nat) (a2 : Nat) (a3 : Nat) (a4 : Nat) (a5 : Nat) (a6 : Nat) (a7 : Nat) (a8 : Nat) (a9 : Nat) (a10 : Nat) (a11 : Nat) (a12 : Nat) (a13 : Nat) (a14 : Nat) (a15 : Nat) (a16 : Nat) (a17 : Nat) (a18 : Nat) (a19 : Nat) (a20 : Nat) (a21 : Nat) (a22 : Nat) (a23 : Nat) (a31 : Nat) (p0 : Int32) (p1 : Int32) : Met l yX5_open (pl_h yX5_open cX5_open 3 (some .int)) ({ frames := 2, cells := 0, slots := 0, locals := 43 }) (va_Pc [.ref h0, .int p0, .int p1] (pn_M D (pn_Y cI cZ cJ cG) [(h0, .inr (5, [.int 0, .int 0, .ref a2, .ref a3, .ref a4, .ref a5, .ref a6, .ref a7, .ref a8, .ref a9, .ref a10, .ref a11, .ref a12, .ref a13, .ref a14, .ref a15, .ref a16, .ref a17, .ref a18, .ref a19, .ref a20, .ref a21, .ref a22, .ref a23, .int 0, .int 0, .int 0, .int 0, .int 0, .int 0, .int 0, .ref a31]))] sz)) (va_Qi (fun (r : Int32) (u : Int32 × List Value) => (r = 0 ∧ u.1 = 1 ∧ True)) (fun u tz_ => va_P D vwCl [(h0, .inr (5, (.int u.1 :: u.2)))] tz_.heap ∧ va_D (va_A [(h0, .inr (5, [.int 0, .int 0, .ref a2, .ref a3, .ref a4, .ref a5, .ref a6, .ref a7, .ref a8, .ref a9, .ref a10, .ref a11, .ref a12, .ref a13, .ref a14, .ref a15, .ref a16, .ref a17, .ref a18, .ref a19, .ref a20, .ref a21, .ref a22, .ref a23, .int 0, .int 0, .int 0, .int 0, .int 0, .int 0, .int 0, .ref a31]))] sz) [(h0, .inr (5, (.int u.1 :: u.2)))]) (va_A [(h0, .inr (5, [.int 0, .int 0, .ref a2, .ref a3, .ref a4, .ref a5, .ref a6, .ref a7, .ref a8, .ref a9, .ref a10, .ref a11, .ref a12, .ref a13, .ref a14, .ref a15, .ref a16, .ref a17, .ref a18, .ref a19, .ref a20, .ref a21, .ref a22, .ref a23, .int 0, .int 0, .int 0, .int 0, .int 0, .int 0, .int 0, .ref a31]))] sz)) 0 0 (va_A [(h0, .inr (5, [.int 0, .int 0, .ref a2, .ref a3, .ref a4, .ref a5, .ref a6, .ref a7, .ref a8, .ref a9, .ref a10, .ref a11, .ref a12, .ref a13, .ref a14, .ref a15, .ref a16, .ref a17, .ref a18, .ref a19, .ref a20, .ref a21, .ref a22, .ref a23, .int 0, .int 0, .int 0, .int 0, .int 0, .int 0, .int 0, .ref a31]))] sz) := by
  refine Met.ofW (cc := cX5_open) (maxL := 3) (ret := (some .int)) (by decide) rfl ?_
  intro p e s m args below meth c s₁ B hml hv
  obtain ⟨rfl, hsz, hP, hK, hD0⟩ := hv
  have hx := B.exec
  have hb := B.bytes
  have hr := B.returns
  have hts0 := atoms_spec (ws := pl_h yX5_open cX5_open 3 (some .int)) B.pre
  have hts := fun (w : Cond) (h : w ∈ pw_all) => hts0 w (List.mem_cons_of_mem _ h)
  have hown : s.vm.findClass RX5 = some m.cls := findClass_of_methodNamed B.named
  have hlocks := B.notSynchronized
  subst hsz
  have hD := hD0.self (sz := s.heap.size)
  generalize hAe : va_A [(h0, .inr (5, [.int 0, .int 0, .ref a2, .ref a3, .ref a4, .ref a5, .ref a6, .ref a7, .ref a8, .ref a9, .ref a10, .ref a11, .ref a12, .ref a13, .ref a14, .ref a15, .ref a16, .ref a17, .ref a18, .ref a19, .ref a20, .ref a21, .ref a22, .ref a23, .int 0, .int 0, .int 0, .int 0, .int 0, .int 0, .int 0, .ref a31]))] s.heap.size = A at hD ⊢
  have hA : ∀ q : Nat, s.heap.size ≤ q → A q := fun q h => by rw [← hAe]; exact Or.inr h
  have hS : va_S A s.heap s.heap [] := va_S.rf
  have hl := lv_entry ([.ref h0, .int p0, .int p1]) (n := 3) (Nat.le_of_ble_eq_true rfl)
  rw [lg_entry_eq]
  generalize (lg_sl ([.ref h0, .int p0, .int p1]) ++ List.replicate (3 - (lg_sl ([.ref h0, .int p0, .int p1])).length) Slot.unset).toArray = ls at hl ⊢
  have hl : lv_has ls 3 [(0, .ref h0), (1, .int p0), (2, .int p1)] := hl
  refine lv_aload_n hx hb dX5_open_0 rfl (lv_at hl 0 rfl) ?_
  refine lv_iconst (v := 0) hx hb dX5_open_1 (by decide) ?_
  refine va_put (D := D) (ci := 5) (v := .int 0) (ty := .int) (C := RX5) (T := TX5) (N := 32) hx hb hts inlX5 tyX5 tyX5_ok nmX5 hown hK hP hD hS 0 rfl rfl 0 (by decide) (hts (.fieldLink RX5 80 "VtableTownModel" "thrown" "I") (pl_m 137 (by decide +kernel))) (fun _ h9 => h9) rfl (by decide +kernel) rfl rfl (Nat.le_of_ble_eq_true rfl) dX5_open_2 (fun H locs hP hD hS => ?_)
  have hP : va_P D vwCl [(h0, .inr (5, [.int 0, .int 0, .ref a2, .ref a3, .ref a4, .ref a5, .ref a6, .ref a7, .ref a8, .ref a9, .ref a10, .ref a11, .ref a12, .ref a13, .ref a14, .ref a15, .ref a16, .ref a17, .ref a18, .ref a19, .ref a20, .ref a21, .ref a22, .ref a23, .int 0, .int 0, .int 0, .int 0, .int 0, .int 0, .int 0, .ref a31]))] H := hP
  have hD : va_D (A) [(h0, .inr (5, [.int 0, .int 0, .ref a2, .ref a3, .ref a4, .ref a5, .ref a6, .ref a7, .ref a8, .ref a9, .ref a10, .ref a11, .ref a12, .ref a13, .ref a14, .ref a15, .ref a16, .ref a17, .ref a18, .ref a19, .ref a20, .ref a21, .ref a22, .ref a23, .int 0, .int 0, .int 0, .int 0, .int 0, .int 0, .int 0, .ref a31]))] := hD
  refine lv_aload_n hx hb dX5_open_5 rfl (lv_at hl 0 rfl) ?_
  refine lv_iload_n hx hb dX5_open_6 rfl (lv_at hl 1 rfl) ?_
  have hPc := hP.sub (ws' := [(h0, .inr (5, [.int 0, .int 0, .ref a2, .ref a3, .ref a4, .ref a5, .ref a6, .ref a7, .ref a8, .ref a9, .ref a10, .ref a11, .ref a12, .ref a13, .ref a14, .ref a15, .ref a16, .ref a17, .ref a18, .ref a19, .ref a20, .ref a21, .ref a22, .ref a23, .int 0, .int 0, .int 0, .int 0, .int 0, .int 0, .int 0, .ref a31]))]) [0] rfl
  refine pn_ci (va_runV (As := [.int p0]) (rest := []) ⟨hx, hb, hml, hown, hts⟩ (c_X5_isTold l D cI cZ cJ cG H.size h0 0 ([.ref a2, .ref a3, .ref a4, .ref a5, .ref a6, .ref a7, .ref a8, .ref a9, .ref a10, .ref a11, .ref a12, .ref a13, .ref a14, .ref a15, .ref a16, .ref a17, .ref a18, .ref a19, .ref a20, .ref a21, .ref a22, .ref a23, .int 0, .int 0, .int 0, .int 0, .int 0, .int 0, .int 0, .ref a31]) p0) (cwV 1 hts (pl_V (pl_m 203 (by decide +kernel)) (pl_m 204 (by decide +kernel)) (pl_m 205 (by decide +kernel)) (pl_m 5 (by decide +kernel)) (pl_m 206 (by decide +kernel))) rfl rfl rfl (by decide +kernel) ⟨(Nat.le_of_ble_eq_true rfl), (Nat.le_of_ble_eq_true rfl)⟩) ⟨pn_B_blind, va_recv hK hPc (ci := 5) (q0 := 0) rfl rfl, (pn_B_at hPc hK)⟩ rfl rfl hl.1 rfl (lv_room (Nat.le_of_ble_eq_true rfl)) dX5_open_7 ⟨(Nat.le_of_ble_eq_true rfl), (Nat.le_of_ble_eq_true rfl)⟩) hS hA hP (fun r_1 H locs hw hP hS => ?_)
  have hP : va_P D vwCl [(h0, .inr (5, [.int 0, .int 0, .ref a2, .ref a3, .ref a4, .ref a5, .ref a6, .ref a7, .ref a8, .ref a9, .ref a10, .ref a11, .ref a12, .ref a13, .ref a14, .ref a15, .ref a16, .ref a17, .ref a18, .ref a19, .ref a20, .ref a21, .ref a22, .ref a23, .int 0, .int 0, .int 0, .int 0, .int 0, .int 0, .int 0, .ref a31]))] H := hP
  obtain ⟨rfl, hw⟩ := hw
  try simp only [Int32.reduceToInt] at hw
  refine lv_if_eq (tgt := 22) hx hb dX5_open_10 (by decide) (fun _ => ?_) (fun h9 => absurd (by decide) h9)
  refine lv_aload_n hx hb dX5_open_22 rfl (lv_at hl 0 rfl) ?_
  refine lv_iconst (v := 1) hx hb dX5_open_23 (by decide) ?_
  have hPc := hP.sub (ws' := [(h0, .inr (5, [.int 0, .int 0, .ref a2, .ref a3, .ref a4, .ref a5, .ref a6, .ref a7, .ref a8, .ref a9, .ref a10, .ref a11, .ref a12, .ref a13, .ref a14, .ref a15, .ref a16, .ref a17, .ref a18, .ref a19, .ref a20, .ref a21, .ref a22, .ref a23, .int 0, .int 0, .int 0, .int 0, .int 0, .int 0, .int 0, .ref a31]))]) [0] rfl
  have hDc := hD.sub (ws' := [(h0, .inr (5, [.int 0, .int 0, .ref a2, .ref a3, .ref a4, .ref a5, .ref a6, .ref a7, .ref a8, .ref a9, .ref a10, .ref a11, .ref a12, .ref a13, .ref a14, .ref a15, .ref a16, .ref a17, .ref a18, .ref a19, .ref a20, .ref a21, .ref a22, .ref a23, .int 0, .int 0, .int 0, .int 0, .int 0, .int 0, .int 0, .ref a31]))]) [0] (by decide) rfl
  refine pn_mi (w1 := fun (u : Unit) => [(h0, .inr (5, [.int 1, .int 0, .ref a2, .ref a3, .ref a4, .ref a5, .ref a6, .ref a7, .ref a8, .ref a9, .ref a10, .ref a11, .ref a12, .ref a13, .ref a14, .ref a15, .ref a16, .ref a17, .ref a18, .ref a19, .ref a20, .ref a21, .ref a22, .ref a23, .int 0, .int 0, .int 0, .int 0, .int 0, .int 0, .int 0, .ref a31]))]) (wr := []) (wc := [(h0, .inr (5, [.int 0, .int 0, .ref a2, .ref a3, .ref a4, .ref a5, .ref a6, .ref a7, .ref a8, .ref a9, .ref a10, .ref a11, .ref a12, .ref a13, .ref a14, .ref a15, .ref a16, .ref a17, .ref a18, .ref a19, .ref a20, .ref a21, .ref a22, .ref a23, .int 0, .int 0, .int 0, .int 0, .int 0, .int 0, .int 0, .ref a31]))]) [0] [] (va_runV (As := [.int 1]) (rest := []) ⟨hx, hb, hml, hown, hts⟩ (c_X5_no l D cI cZ cJ cG H.size h0 a2 a3 a4 a5 a6 a7 a8 a9 a10 a11 a12 a13 a14 a15 a16 a17 a18 a19 a20 a21 a22 a23 a31 0 1) (cwV 1 hts (pl_V (pl_m 142 (by decide +kernel)) (pl_m 143 (by decide +kernel)) (pl_m 144 (by decide +kernel)) (pl_m 5 (by decide +kernel)) (pl_m 145 (by decide +kernel))) rfl rfl rfl (by decide +kernel) ⟨(Nat.le_of_ble_eq_true rfl), (Nat.le_of_ble_eq_true rfl)⟩) ⟨pn_M_blind, va_recv hK hPc (ci := 5) (q0 := 0) rfl rfl, (pn_M_at hPc hDc hK)⟩ rfl rfl hl.1 rfl (lv_room (Nat.le_of_ble_eq_true rfl)) dX5_open_24 ⟨(Nat.le_of_ble_eq_true rfl), (Nat.le_of_ble_eq_true rfl)⟩) hS hA hP hD rfl rfl (by decide) (by decide) (fun r_2 u_2 H locs hw hP hD hS => ?_)
  have hP : va_P D vwCl [(h0, .inr (5, [.int 1, .int 0, .ref a2, .ref a3, .ref a4, .ref a5, .ref a6, .ref a7, .ref a8, .ref a9, .ref a10, .ref a11, .ref a12, .ref a13, .ref a14, .ref a15, .ref a16, .ref a17, .ref a18, .ref a19, .ref a20, .ref a21, .ref a22, .ref a23, .int 0, .int 0, .int 0, .int 0, .int 0, .int 0, .int 0, .ref a31]))] H := hP
  have hD : va_D (A) [(h0, .inr (5, [.int 1, .int 0, .ref a2, .ref a3, .ref a4, .ref a5, .ref a6, .ref a7, .ref a8, .ref a9, .ref a10, .ref a11, .ref a12, .ref a13, .ref a14, .ref a15, .ref a16, .ref a17, .ref a18, .ref a19, .ref a20, .ref a21, .ref a22, .ref a23, .int 0, .int 0, .int 0, .int 0, .int 0, .int 0, .int 0, .ref a31]))] := hD
  obtain ⟨rfl, hw⟩ := hw
  try simp only [Int32.reduceToInt] at hw
  have hP9 := hP.sub (ws' := [(h0, .inr (5, [.int 1, .int 0, .ref a2, .ref a3, .ref a4, .ref a5, .ref a6, .ref a7, .ref a8, .ref a9, .ref a10, .ref a11, .ref a12, .ref a13, .ref a14, .ref a15, .ref a16, .ref a17, .ref a18, .ref a19, .ref a20, .ref a21, .ref a22, .ref a23, .int 0, .int 0, .int 0, .int 0, .int 0, .int 0, .int 0, .ref a31]))]) [0] rfl
  have hD9 := hD.sub (ws' := [(h0, .inr (5, [.int 1, .int 0, .ref a2, .ref a3, .ref a4, .ref a5, .ref a6, .ref a7, .ref a8, .ref a9, .ref a10, .ref a11, .ref a12, .ref a13, .ref a14, .ref a15, .ref a16, .ref a17, .ref a18, .ref a19, .ref a20, .ref a21, .ref a22, .ref a23, .int 0, .int 0, .int 0, .int 0, .int 0, .int 0, .int 0, .ref a31]))]) [0] (by decide) rfl
  exact W.iret (v := 0) hx hb hr (fun tz_ ht hW => ⟨⟨0, (1, [.int 0, .ref a2, .ref a3, .ref a4, .ref a5, .ref a6, .ref a7, .ref a8, .ref a9, .ref a10, .ref a11, .ref a12, .ref a13, .ref a14, .ref a15, .ref a16, .ref a17, .ref a18, .ref a19, .ref a20, .ref a21, .ref a22, .ref a23, .int 0, .int 0, .int 0, .int 0, .int 0, .int 0, .int 0, .ref a31]), rfl, ⟨rfl, rfl, (by first | exact trivial | omega | (simp only [Int32.reduceToInt] at *; omega) | decide)⟩, (by rw [ht]; exact hP9), hD9⟩, hS.F ht⟩) hS.2.2 dX5_open_27
set_option maxHeartbeats 4000000 in
set_option maxRecDepth 100000 in
theorem c_X5_step (l : Launch) (D : va_G) (cI cZ cJ cG : ClassId) (sz : Nat) (h0 : Nat) (a2 : Nat) (a3 : Nat) (a4 : Nat) (a5 : Nat) (a6 : Nat) (a7 : Nat) (a8 : Nat) (a9 : Nat) (a10 : Nat) (a11 : Nat) (a12 : Nat) (a13 : Nat) (a14 : Nat) (a15 : Nat) (a16 : Nat) (a17 : Nat) (a18 : Nat) (a19 : Nat) (a20 : Nat) (a21 : Nat) (a22 : Nat) (a23 : Nat) (a31 : Nat) (p0 : Int32) (p1 : Int32) (p2 : Int32) (p3 : Int32) (p4 : Int32) : Met l yX5_step (pl_h yX5_step cX5_step 6 (some .int)) ({ frames := 2, cells := 0, slots := 0, locals := 43 }) (va_Pc [.ref h0, .int p0, .int p1, .int p2, .int p3, .int p4] (pn_M D (pn_Y cI cZ cJ cG) [(h0, .inr (5, [.int 0, .int 0, .ref a2, .ref a3, .ref a4, .ref a5, .ref a6, .ref a7, .ref a8, .ref a9, .ref a10, .ref a11, .ref a12, .ref a13, .ref a14, .ref a15, .ref a16, .ref a17, .ref a18, .ref a19, .ref a20, .ref a21, .ref a22, .ref a23, .int 0, .int 0, .int 0, .int 0, .int 0, .int 0, .int 0, .ref a31]))] sz)) (va_Qi (fun (r : Int32) (u : Int32 × List Value) => (r = 0 ∧ u.1 = 1 ∧ True)) (fun u tz_ => va_P D vwCl [(h0, .inr (5, (.int u.1 :: u.2)))] tz_.heap ∧ va_D (va_A [(h0, .inr (5, [.int 0, .int 0, .ref a2, .ref a3, .ref a4, .ref a5, .ref a6, .ref a7, .ref a8, .ref a9, .ref a10, .ref a11, .ref a12, .ref a13, .ref a14, .ref a15, .ref a16, .ref a17, .ref a18, .ref a19, .ref a20, .ref a21, .ref a22, .ref a23, .int 0, .int 0, .int 0, .int 0, .int 0, .int 0, .int 0, .ref a31]))] sz) [(h0, .inr (5, (.int u.1 :: u.2)))]) (va_A [(h0, .inr (5, [.int 0, .int 0, .ref a2, .ref a3, .ref a4, .ref a5, .ref a6, .ref a7, .ref a8, .ref a9, .ref a10, .ref a11, .ref a12, .ref a13, .ref a14, .ref a15, .ref a16, .ref a17, .ref a18, .ref a19, .ref a20, .ref a21, .ref a22, .ref a23, .int 0, .int 0, .int 0, .int 0, .int 0, .int 0, .int 0, .ref a31]))] sz)) 0 0 (va_A [(h0, .inr (5, [.int 0, .int 0, .ref a2, .ref a3, .ref a4, .ref a5, .ref a6, .ref a7, .ref a8, .ref a9, .ref a10, .ref a11, .ref a12, .ref a13, .ref a14, .ref a15, .ref a16, .ref a17, .ref a18, .ref a19, .ref a20, .ref a21, .ref a22, .ref a23, .int 0, .int 0, .int 0, .int 0, .int 0, .int 0, .int 0, .ref a31]))] sz) := by
  refine Met.ofW (cc := cX5_step) (maxL := 6) (ret := (some .int)) (by decide) rfl ?_
  intro p e s m args below meth c s₁ B hml hv
  obtain ⟨rfl, hsz, hP, hK, hD0⟩ := hv
  have hx := B.exec
  have hb := B.bytes
  have hr := B.returns
  have hts0 := atoms_spec (ws := pl_h yX5_step cX5_step 6 (some .int)) B.pre
  have hts := fun (w : Cond) (h : w ∈ pw_all) => hts0 w (List.mem_cons_of_mem _ h)
  have hown : s.vm.findClass RX5 = some m.cls := findClass_of_methodNamed B.named
  have hlocks := B.notSynchronized
  subst hsz
  have hD := hD0.self (sz := s.heap.size)
  generalize hAe : va_A [(h0, .inr (5, [.int 0, .int 0, .ref a2, .ref a3, .ref a4, .ref a5, .ref a6, .ref a7, .ref a8, .ref a9, .ref a10, .ref a11, .ref a12, .ref a13, .ref a14, .ref a15, .ref a16, .ref a17, .ref a18, .ref a19, .ref a20, .ref a21, .ref a22, .ref a23, .int 0, .int 0, .int 0, .int 0, .int 0, .int 0, .int 0, .ref a31]))] s.heap.size = A at hD ⊢
  have hA : ∀ q : Nat, s.heap.size ≤ q → A q := fun q h => by rw [← hAe]; exact Or.inr h
  have hS : va_S A s.heap s.heap [] := va_S.rf
  have hl := lv_entry ([.ref h0, .int p0, .int p1, .int p2, .int p3, .int p4]) (n := 6) (Nat.le_of_ble_eq_true rfl)
  rw [lg_entry_eq]
  generalize (lg_sl ([.ref h0, .int p0, .int p1, .int p2, .int p3, .int p4]) ++ List.replicate (6 - (lg_sl ([.ref h0, .int p0, .int p1, .int p2, .int p3, .int p4])).length) Slot.unset).toArray = ls at hl ⊢
  have hl : lv_has ls 6 [(0, .ref h0), (1, .int p0), (2, .int p1), (3, .int p2), (4, .int p3), (5, .int p4)] := hl
  refine lv_aload_n hx hb dX5_step_0 rfl (lv_at hl 0 rfl) ?_
  refine lv_iconst (v := 0) hx hb dX5_step_1 (by decide) ?_
  refine va_put (D := D) (ci := 5) (v := .int 0) (ty := .int) (C := RX5) (T := TX5) (N := 32) hx hb hts inlX5 tyX5 tyX5_ok nmX5 hown hK hP hD hS 0 rfl rfl 0 (by decide) (hts (.fieldLink RX5 80 "VtableTownModel" "thrown" "I") (pl_m 137 (by decide +kernel))) (fun _ h9 => h9) rfl (by decide +kernel) rfl rfl (Nat.le_of_ble_eq_true rfl) dX5_step_2 (fun H locs hP hD hS => ?_)
  have hP : va_P D vwCl [(h0, .inr (5, [.int 0, .int 0, .ref a2, .ref a3, .ref a4, .ref a5, .ref a6, .ref a7, .ref a8, .ref a9, .ref a10, .ref a11, .ref a12, .ref a13, .ref a14, .ref a15, .ref a16, .ref a17, .ref a18, .ref a19, .ref a20, .ref a21, .ref a22, .ref a23, .int 0, .int 0, .int 0, .int 0, .int 0, .int 0, .int 0, .ref a31]))] H := hP
  have hD : va_D (A) [(h0, .inr (5, [.int 0, .int 0, .ref a2, .ref a3, .ref a4, .ref a5, .ref a6, .ref a7, .ref a8, .ref a9, .ref a10, .ref a11, .ref a12, .ref a13, .ref a14, .ref a15, .ref a16, .ref a17, .ref a18, .ref a19, .ref a20, .ref a21, .ref a22, .ref a23, .int 0, .int 0, .int 0, .int 0, .int 0, .int 0, .int 0, .ref a31]))] := hD
  refine lv_aload_n hx hb dX5_step_5 rfl (lv_at hl 0 rfl) ?_
  refine lv_iload_n hx hb dX5_step_6 rfl (lv_at hl 1 rfl) ?_
  have hPc := hP.sub (ws' := [(h0, .inr (5, [.int 0, .int 0, .ref a2, .ref a3, .ref a4, .ref a5, .ref a6, .ref a7, .ref a8, .ref a9, .ref a10, .ref a11, .ref a12, .ref a13, .ref a14, .ref a15, .ref a16, .ref a17, .ref a18, .ref a19, .ref a20, .ref a21, .ref a22, .ref a23, .int 0, .int 0, .int 0, .int 0, .int 0, .int 0, .int 0, .ref a31]))]) [0] rfl
  refine pn_ci (va_runV (As := [.int p0]) (rest := []) ⟨hx, hb, hml, hown, hts⟩ (c_X5_isTold l D cI cZ cJ cG H.size h0 0 ([.ref a2, .ref a3, .ref a4, .ref a5, .ref a6, .ref a7, .ref a8, .ref a9, .ref a10, .ref a11, .ref a12, .ref a13, .ref a14, .ref a15, .ref a16, .ref a17, .ref a18, .ref a19, .ref a20, .ref a21, .ref a22, .ref a23, .int 0, .int 0, .int 0, .int 0, .int 0, .int 0, .int 0, .ref a31]) p0) (cwV 1 hts (pl_V (pl_m 203 (by decide +kernel)) (pl_m 204 (by decide +kernel)) (pl_m 205 (by decide +kernel)) (pl_m 5 (by decide +kernel)) (pl_m 206 (by decide +kernel))) rfl rfl rfl (by decide +kernel) ⟨(Nat.le_of_ble_eq_true rfl), (Nat.le_of_ble_eq_true rfl)⟩) ⟨pn_B_blind, va_recv hK hPc (ci := 5) (q0 := 0) rfl rfl, (pn_B_at hPc hK)⟩ rfl rfl hl.1 rfl (lv_room (Nat.le_of_ble_eq_true rfl)) dX5_step_7 ⟨(Nat.le_of_ble_eq_true rfl), (Nat.le_of_ble_eq_true rfl)⟩) hS hA hP (fun r_1 H locs hw hP hS => ?_)
  have hP : va_P D vwCl [(h0, .inr (5, [.int 0, .int 0, .ref a2, .ref a3, .ref a4, .ref a5, .ref a6, .ref a7, .ref a8, .ref a9, .ref a10, .ref a11, .ref a12, .ref a13, .ref a14, .ref a15, .ref a16, .ref a17, .ref a18, .ref a19, .ref a20, .ref a21, .ref a22, .ref a23, .int 0, .int 0, .int 0, .int 0, .int 0, .int 0, .int 0, .ref a31]))] H := hP
  obtain ⟨rfl, hw⟩ := hw
  try simp only [Int32.reduceToInt] at hw
  refine lv_if_eq (tgt := 22) hx hb dX5_step_10 (by decide) (fun _ => ?_) (fun h9 => absurd (by decide) h9)
  refine lv_aload_n hx hb dX5_step_22 rfl (lv_at hl 0 rfl) ?_
  refine lv_iconst (v := 1) hx hb dX5_step_23 (by decide) ?_
  have hPc := hP.sub (ws' := [(h0, .inr (5, [.int 0, .int 0, .ref a2, .ref a3, .ref a4, .ref a5, .ref a6, .ref a7, .ref a8, .ref a9, .ref a10, .ref a11, .ref a12, .ref a13, .ref a14, .ref a15, .ref a16, .ref a17, .ref a18, .ref a19, .ref a20, .ref a21, .ref a22, .ref a23, .int 0, .int 0, .int 0, .int 0, .int 0, .int 0, .int 0, .ref a31]))]) [0] rfl
  have hDc := hD.sub (ws' := [(h0, .inr (5, [.int 0, .int 0, .ref a2, .ref a3, .ref a4, .ref a5, .ref a6, .ref a7, .ref a8, .ref a9, .ref a10, .ref a11, .ref a12, .ref a13, .ref a14, .ref a15, .ref a16, .ref a17, .ref a18, .ref a19, .ref a20, .ref a21, .ref a22, .ref a23, .int 0, .int 0, .int 0, .int 0, .int 0, .int 0, .int 0, .ref a31]))]) [0] (by decide) rfl
  refine pn_mi (w1 := fun (u : Unit) => [(h0, .inr (5, [.int 1, .int 0, .ref a2, .ref a3, .ref a4, .ref a5, .ref a6, .ref a7, .ref a8, .ref a9, .ref a10, .ref a11, .ref a12, .ref a13, .ref a14, .ref a15, .ref a16, .ref a17, .ref a18, .ref a19, .ref a20, .ref a21, .ref a22, .ref a23, .int 0, .int 0, .int 0, .int 0, .int 0, .int 0, .int 0, .ref a31]))]) (wr := []) (wc := [(h0, .inr (5, [.int 0, .int 0, .ref a2, .ref a3, .ref a4, .ref a5, .ref a6, .ref a7, .ref a8, .ref a9, .ref a10, .ref a11, .ref a12, .ref a13, .ref a14, .ref a15, .ref a16, .ref a17, .ref a18, .ref a19, .ref a20, .ref a21, .ref a22, .ref a23, .int 0, .int 0, .int 0, .int 0, .int 0, .int 0, .int 0, .ref a31]))]) [0] [] (va_runV (As := [.int 1]) (rest := []) ⟨hx, hb, hml, hown, hts⟩ (c_X5_no l D cI cZ cJ cG H.size h0 a2 a3 a4 a5 a6 a7 a8 a9 a10 a11 a12 a13 a14 a15 a16 a17 a18 a19 a20 a21 a22 a23 a31 0 1) (cwV 1 hts (pl_V (pl_m 142 (by decide +kernel)) (pl_m 143 (by decide +kernel)) (pl_m 144 (by decide +kernel)) (pl_m 5 (by decide +kernel)) (pl_m 145 (by decide +kernel))) rfl rfl rfl (by decide +kernel) ⟨(Nat.le_of_ble_eq_true rfl), (Nat.le_of_ble_eq_true rfl)⟩) ⟨pn_M_blind, va_recv hK hPc (ci := 5) (q0 := 0) rfl rfl, (pn_M_at hPc hDc hK)⟩ rfl rfl hl.1 rfl (lv_room (Nat.le_of_ble_eq_true rfl)) dX5_step_24 ⟨(Nat.le_of_ble_eq_true rfl), (Nat.le_of_ble_eq_true rfl)⟩) hS hA hP hD rfl rfl (by decide) (by decide) (fun r_2 u_2 H locs hw hP hD hS => ?_)
  have hP : va_P D vwCl [(h0, .inr (5, [.int 1, .int 0, .ref a2, .ref a3, .ref a4, .ref a5, .ref a6, .ref a7, .ref a8, .ref a9, .ref a10, .ref a11, .ref a12, .ref a13, .ref a14, .ref a15, .ref a16, .ref a17, .ref a18, .ref a19, .ref a20, .ref a21, .ref a22, .ref a23, .int 0, .int 0, .int 0, .int 0, .int 0, .int 0, .int 0, .ref a31]))] H := hP
  have hD : va_D (A) [(h0, .inr (5, [.int 1, .int 0, .ref a2, .ref a3, .ref a4, .ref a5, .ref a6, .ref a7, .ref a8, .ref a9, .ref a10, .ref a11, .ref a12, .ref a13, .ref a14, .ref a15, .ref a16, .ref a17, .ref a18, .ref a19, .ref a20, .ref a21, .ref a22, .ref a23, .int 0, .int 0, .int 0, .int 0, .int 0, .int 0, .int 0, .ref a31]))] := hD
  obtain ⟨rfl, hw⟩ := hw
  try simp only [Int32.reduceToInt] at hw
  have hP9 := hP.sub (ws' := [(h0, .inr (5, [.int 1, .int 0, .ref a2, .ref a3, .ref a4, .ref a5, .ref a6, .ref a7, .ref a8, .ref a9, .ref a10, .ref a11, .ref a12, .ref a13, .ref a14, .ref a15, .ref a16, .ref a17, .ref a18, .ref a19, .ref a20, .ref a21, .ref a22, .ref a23, .int 0, .int 0, .int 0, .int 0, .int 0, .int 0, .int 0, .ref a31]))]) [0] rfl
  have hD9 := hD.sub (ws' := [(h0, .inr (5, [.int 1, .int 0, .ref a2, .ref a3, .ref a4, .ref a5, .ref a6, .ref a7, .ref a8, .ref a9, .ref a10, .ref a11, .ref a12, .ref a13, .ref a14, .ref a15, .ref a16, .ref a17, .ref a18, .ref a19, .ref a20, .ref a21, .ref a22, .ref a23, .int 0, .int 0, .int 0, .int 0, .int 0, .int 0, .int 0, .ref a31]))]) [0] (by decide) rfl
  exact W.iret (v := 0) hx hb hr (fun tz_ ht hW => ⟨⟨0, (1, [.int 0, .ref a2, .ref a3, .ref a4, .ref a5, .ref a6, .ref a7, .ref a8, .ref a9, .ref a10, .ref a11, .ref a12, .ref a13, .ref a14, .ref a15, .ref a16, .ref a17, .ref a18, .ref a19, .ref a20, .ref a21, .ref a22, .ref a23, .int 0, .int 0, .int 0, .int 0, .int 0, .int 0, .int 0, .ref a31]), rfl, ⟨rfl, rfl, (by first | exact trivial | omega | (simp only [Int32.reduceToInt] at *; omega) | decide)⟩, (by rw [ht]; exact hP9), hD9⟩, hS.F ht⟩) hS.2.2 dX5_step_27
set_option maxHeartbeats 4000000 in
set_option maxRecDepth 100000 in
theorem c_X5_first (l : Launch) (D : va_G) (cI cZ cJ cG : ClassId) (sz : Nat) (h0 : Nat) (a2 : Nat) (a3 : Nat) (a4 : Nat) (a5 : Nat) (a6 : Nat) (a7 : Nat) (a8 : Nat) (a9 : Nat) (a10 : Nat) (a11 : Nat) (a12 : Nat) (a13 : Nat) (a14 : Nat) (a15 : Nat) (a16 : Nat) (a17 : Nat) (a18 : Nat) (a19 : Nat) (a20 : Nat) (a21 : Nat) (a22 : Nat) (a23 : Nat) (a31 : Nat) (p0 : Int32) (p1 : Int32) (p2 : Int32) (p3 : Int32) : Met l yX5_first (pl_h yX5_first cX5_first 5 (some .int)) ({ frames := 2, cells := 0, slots := 0, locals := 43 }) (va_Pc [.ref h0, .int p0, .int p1, .int p2, .int p3] (pn_M D (pn_Y cI cZ cJ cG) [(h0, .inr (5, [.int 0, .int 0, .ref a2, .ref a3, .ref a4, .ref a5, .ref a6, .ref a7, .ref a8, .ref a9, .ref a10, .ref a11, .ref a12, .ref a13, .ref a14, .ref a15, .ref a16, .ref a17, .ref a18, .ref a19, .ref a20, .ref a21, .ref a22, .ref a23, .int 0, .int 0, .int 0, .int 0, .int 0, .int 0, .int 0, .ref a31]))] sz)) (va_Qi (fun (r : Int32) (u : Int32 × List Value) => (r = 0 ∧ u.1 = 1 ∧ True)) (fun u tz_ => va_P D vwCl [(h0, .inr (5, (.int u.1 :: u.2)))] tz_.heap ∧ va_D (va_A [(h0, .inr (5, [.int 0, .int 0, .ref a2, .ref a3, .ref a4, .ref a5, .ref a6, .ref a7, .ref a8, .ref a9, .ref a10, .ref a11, .ref a12, .ref a13, .ref a14, .ref a15, .ref a16, .ref a17, .ref a18, .ref a19, .ref a20, .ref a21, .ref a22, .ref a23, .int 0, .int 0, .int 0, .int 0, .int 0, .int 0, .int 0, .ref a31]))] sz) [(h0, .inr (5, (.int u.1 :: u.2)))]) (va_A [(h0, .inr (5, [.int 0, .int 0, .ref a2, .ref a3, .ref a4, .ref a5, .ref a6, .ref a7, .ref a8, .ref a9, .ref a10, .ref a11, .ref a12, .ref a13, .ref a14, .ref a15, .ref a16, .ref a17, .ref a18, .ref a19, .ref a20, .ref a21, .ref a22, .ref a23, .int 0, .int 0, .int 0, .int 0, .int 0, .int 0, .int 0, .ref a31]))] sz)) 0 0 (va_A [(h0, .inr (5, [.int 0, .int 0, .ref a2, .ref a3, .ref a4, .ref a5, .ref a6, .ref a7, .ref a8, .ref a9, .ref a10, .ref a11, .ref a12, .ref a13, .ref a14, .ref a15, .ref a16, .ref a17, .ref a18, .ref a19, .ref a20, .ref a21, .ref a22, .ref a23, .int 0, .int 0, .int 0, .int 0, .int 0, .int 0, .int 0, .ref a31]))] sz) := by
  refine Met.ofW (cc := cX5_first) (maxL := 5) (ret := (some .int)) (by decide) rfl ?_
  intro p e s m args below meth c s₁ B hml hv
  obtain ⟨rfl, hsz, hP, hK, hD0⟩ := hv
  have hx := B.exec
  have hb := B.bytes
  have hr := B.returns
  have hts0 := atoms_spec (ws := pl_h yX5_first cX5_first 5 (some .int)) B.pre
  have hts := fun (w : Cond) (h : w ∈ pw_all) => hts0 w (List.mem_cons_of_mem _ h)
  have hown : s.vm.findClass RX5 = some m.cls := findClass_of_methodNamed B.named
  have hlocks := B.notSynchronized
  subst hsz
  have hD := hD0.self (sz := s.heap.size)
  generalize hAe : va_A [(h0, .inr (5, [.int 0, .int 0, .ref a2, .ref a3, .ref a4, .ref a5, .ref a6, .ref a7, .ref a8, .ref a9, .ref a10, .ref a11, .ref a12, .ref a13, .ref a14, .ref a15, .ref a16, .ref a17, .ref a18, .ref a19, .ref a20, .ref a21, .ref a22, .ref a23, .int 0, .int 0, .int 0, .int 0, .int 0, .int 0, .int 0, .ref a31]))] s.heap.size = A at hD ⊢
  have hA : ∀ q : Nat, s.heap.size ≤ q → A q := fun q h => by rw [← hAe]; exact Or.inr h
  have hS : va_S A s.heap s.heap [] := va_S.rf
  have hl := lv_entry ([.ref h0, .int p0, .int p1, .int p2, .int p3]) (n := 5) (Nat.le_of_ble_eq_true rfl)
  rw [lg_entry_eq]
  generalize (lg_sl ([.ref h0, .int p0, .int p1, .int p2, .int p3]) ++ List.replicate (5 - (lg_sl ([.ref h0, .int p0, .int p1, .int p2, .int p3])).length) Slot.unset).toArray = ls at hl ⊢
  have hl : lv_has ls 5 [(0, .ref h0), (1, .int p0), (2, .int p1), (3, .int p2), (4, .int p3)] := hl
  refine lv_aload_n hx hb dX5_first_0 rfl (lv_at hl 0 rfl) ?_
  refine lv_iconst (v := 0) hx hb dX5_first_1 (by decide) ?_
  refine va_put (D := D) (ci := 5) (v := .int 0) (ty := .int) (C := RX5) (T := TX5) (N := 32) hx hb hts inlX5 tyX5 tyX5_ok nmX5 hown hK hP hD hS 0 rfl rfl 0 (by decide) (hts (.fieldLink RX5 80 "VtableTownModel" "thrown" "I") (pl_m 137 (by decide +kernel))) (fun _ h9 => h9) rfl (by decide +kernel) rfl rfl (Nat.le_of_ble_eq_true rfl) dX5_first_2 (fun H locs hP hD hS => ?_)
  have hP : va_P D vwCl [(h0, .inr (5, [.int 0, .int 0, .ref a2, .ref a3, .ref a4, .ref a5, .ref a6, .ref a7, .ref a8, .ref a9, .ref a10, .ref a11, .ref a12, .ref a13, .ref a14, .ref a15, .ref a16, .ref a17, .ref a18, .ref a19, .ref a20, .ref a21, .ref a22, .ref a23, .int 0, .int 0, .int 0, .int 0, .int 0, .int 0, .int 0, .ref a31]))] H := hP
  have hD : va_D (A) [(h0, .inr (5, [.int 0, .int 0, .ref a2, .ref a3, .ref a4, .ref a5, .ref a6, .ref a7, .ref a8, .ref a9, .ref a10, .ref a11, .ref a12, .ref a13, .ref a14, .ref a15, .ref a16, .ref a17, .ref a18, .ref a19, .ref a20, .ref a21, .ref a22, .ref a23, .int 0, .int 0, .int 0, .int 0, .int 0, .int 0, .int 0, .ref a31]))] := hD
  refine lv_aload_n hx hb dX5_first_5 rfl (lv_at hl 0 rfl) ?_
  refine lv_iload_n hx hb dX5_first_6 rfl (lv_at hl 1 rfl) ?_
  have hPc := hP.sub (ws' := [(h0, .inr (5, [.int 0, .int 0, .ref a2, .ref a3, .ref a4, .ref a5, .ref a6, .ref a7, .ref a8, .ref a9, .ref a10, .ref a11, .ref a12, .ref a13, .ref a14, .ref a15, .ref a16, .ref a17, .ref a18, .ref a19, .ref a20, .ref a21, .ref a22, .ref a23, .int 0, .int 0, .int 0, .int 0, .int 0, .int 0, .int 0, .ref a31]))]) [0] rfl
  refine pn_ci (va_runV (As := [.int p0]) (rest := []) ⟨hx, hb, hml, hown, hts⟩ (c_X5_isTold l D cI cZ cJ cG H.size h0 0 ([.ref a2, .ref a3, .ref a4, .ref a5, .ref a6, .ref a7, .ref a8, .ref a9, .ref a10, .ref a11, .ref a12, .ref a13, .ref a14, .ref a15, .ref a16, .ref a17, .ref a18, .ref a19, .ref a20, .ref a21, .ref a22, .ref a23, .int 0, .int 0, .int 0, .int 0, .int 0, .int 0, .int 0, .ref a31]) p0) (cwV 1 hts (pl_V (pl_m 203 (by decide +kernel)) (pl_m 204 (by decide +kernel)) (pl_m 205 (by decide +kernel)) (pl_m 5 (by decide +kernel)) (pl_m 206 (by decide +kernel))) rfl rfl rfl (by decide +kernel) ⟨(Nat.le_of_ble_eq_true rfl), (Nat.le_of_ble_eq_true rfl)⟩) ⟨pn_B_blind, va_recv hK hPc (ci := 5) (q0 := 0) rfl rfl, (pn_B_at hPc hK)⟩ rfl rfl hl.1 rfl (lv_room (Nat.le_of_ble_eq_true rfl)) dX5_first_7 ⟨(Nat.le_of_ble_eq_true rfl), (Nat.le_of_ble_eq_true rfl)⟩) hS hA hP (fun r_1 H locs hw hP hS => ?_)
  have hP : va_P D vwCl [(h0, .inr (5, [.int 0, .int 0, .ref a2, .ref a3, .ref a4, .ref a5, .ref a6, .ref a7, .ref a8, .ref a9, .ref a10, .ref a11, .ref a12, .ref a13, .ref a14, .ref a15, .ref a16, .ref a17, .ref a18, .ref a19, .ref a20, .ref a21, .ref a22, .ref a23, .int 0, .int 0, .int 0, .int 0, .int 0, .int 0, .int 0, .ref a31]))] H := hP
  obtain ⟨rfl, hw⟩ := hw
  try simp only [Int32.reduceToInt] at hw
  refine lv_if_ne (tgt := 19) hx hb dX5_first_10 (by decide) (fun h9 => absurd (by decide) h9) (fun _ => ?_)
  refine lv_aload_n hx hb dX5_first_13 rfl (lv_at hl 0 rfl) ?_
  refine lv_iconst (v := 1) hx hb dX5_first_14 (by decide) ?_
  have hPc := hP.sub (ws' := [(h0, .inr (5, [.int 0, .int 0, .ref a2, .ref a3, .ref a4, .ref a5, .ref a6, .ref a7, .ref a8, .ref a9, .ref a10, .ref a11, .ref a12, .ref a13, .ref a14, .ref a15, .ref a16, .ref a17, .ref a18, .ref a19, .ref a20, .ref a21, .ref a22, .ref a23, .int 0, .int 0, .int 0, .int 0, .int 0, .int 0, .int 0, .ref a31]))]) [0] rfl
  have hDc := hD.sub (ws' := [(h0, .inr (5, [.int 0, .int 0, .ref a2, .ref a3, .ref a4, .ref a5, .ref a6, .ref a7, .ref a8, .ref a9, .ref a10, .ref a11, .ref a12, .ref a13, .ref a14, .ref a15, .ref a16, .ref a17, .ref a18, .ref a19, .ref a20, .ref a21, .ref a22, .ref a23, .int 0, .int 0, .int 0, .int 0, .int 0, .int 0, .int 0, .ref a31]))]) [0] (by decide) rfl
  refine pn_mi (w1 := fun (u : Unit) => [(h0, .inr (5, [.int 1, .int 0, .ref a2, .ref a3, .ref a4, .ref a5, .ref a6, .ref a7, .ref a8, .ref a9, .ref a10, .ref a11, .ref a12, .ref a13, .ref a14, .ref a15, .ref a16, .ref a17, .ref a18, .ref a19, .ref a20, .ref a21, .ref a22, .ref a23, .int 0, .int 0, .int 0, .int 0, .int 0, .int 0, .int 0, .ref a31]))]) (wr := []) (wc := [(h0, .inr (5, [.int 0, .int 0, .ref a2, .ref a3, .ref a4, .ref a5, .ref a6, .ref a7, .ref a8, .ref a9, .ref a10, .ref a11, .ref a12, .ref a13, .ref a14, .ref a15, .ref a16, .ref a17, .ref a18, .ref a19, .ref a20, .ref a21, .ref a22, .ref a23, .int 0, .int 0, .int 0, .int 0, .int 0, .int 0, .int 0, .ref a31]))]) [0] [] (va_runV (As := [.int 1]) (rest := []) ⟨hx, hb, hml, hown, hts⟩ (c_X5_no l D cI cZ cJ cG H.size h0 a2 a3 a4 a5 a6 a7 a8 a9 a10 a11 a12 a13 a14 a15 a16 a17 a18 a19 a20 a21 a22 a23 a31 0 1) (cwV 1 hts (pl_V (pl_m 142 (by decide +kernel)) (pl_m 143 (by decide +kernel)) (pl_m 144 (by decide +kernel)) (pl_m 5 (by decide +kernel)) (pl_m 145 (by decide +kernel))) rfl rfl rfl (by decide +kernel) ⟨(Nat.le_of_ble_eq_true rfl), (Nat.le_of_ble_eq_true rfl)⟩) ⟨pn_M_blind, va_recv hK hPc (ci := 5) (q0 := 0) rfl rfl, (pn_M_at hPc hDc hK)⟩ rfl rfl hl.1 rfl (lv_room (Nat.le_of_ble_eq_true rfl)) dX5_first_15 ⟨(Nat.le_of_ble_eq_true rfl), (Nat.le_of_ble_eq_true rfl)⟩) hS hA hP hD rfl rfl (by decide) (by decide) (fun r_2 u_2 H locs hw hP hD hS => ?_)
  have hP : va_P D vwCl [(h0, .inr (5, [.int 1, .int 0, .ref a2, .ref a3, .ref a4, .ref a5, .ref a6, .ref a7, .ref a8, .ref a9, .ref a10, .ref a11, .ref a12, .ref a13, .ref a14, .ref a15, .ref a16, .ref a17, .ref a18, .ref a19, .ref a20, .ref a21, .ref a22, .ref a23, .int 0, .int 0, .int 0, .int 0, .int 0, .int 0, .int 0, .ref a31]))] H := hP
  have hD : va_D (A) [(h0, .inr (5, [.int 1, .int 0, .ref a2, .ref a3, .ref a4, .ref a5, .ref a6, .ref a7, .ref a8, .ref a9, .ref a10, .ref a11, .ref a12, .ref a13, .ref a14, .ref a15, .ref a16, .ref a17, .ref a18, .ref a19, .ref a20, .ref a21, .ref a22, .ref a23, .int 0, .int 0, .int 0, .int 0, .int 0, .int 0, .int 0, .ref a31]))] := hD
  obtain ⟨rfl, hw⟩ := hw
  try simp only [Int32.reduceToInt] at hw
  have hP9 := hP.sub (ws' := [(h0, .inr (5, [.int 1, .int 0, .ref a2, .ref a3, .ref a4, .ref a5, .ref a6, .ref a7, .ref a8, .ref a9, .ref a10, .ref a11, .ref a12, .ref a13, .ref a14, .ref a15, .ref a16, .ref a17, .ref a18, .ref a19, .ref a20, .ref a21, .ref a22, .ref a23, .int 0, .int 0, .int 0, .int 0, .int 0, .int 0, .int 0, .ref a31]))]) [0] rfl
  have hD9 := hD.sub (ws' := [(h0, .inr (5, [.int 1, .int 0, .ref a2, .ref a3, .ref a4, .ref a5, .ref a6, .ref a7, .ref a8, .ref a9, .ref a10, .ref a11, .ref a12, .ref a13, .ref a14, .ref a15, .ref a16, .ref a17, .ref a18, .ref a19, .ref a20, .ref a21, .ref a22, .ref a23, .int 0, .int 0, .int 0, .int 0, .int 0, .int 0, .int 0, .ref a31]))]) [0] (by decide) rfl
  exact W.iret (v := 0) hx hb hr (fun tz_ ht hW => ⟨⟨0, (1, [.int 0, .ref a2, .ref a3, .ref a4, .ref a5, .ref a6, .ref a7, .ref a8, .ref a9, .ref a10, .ref a11, .ref a12, .ref a13, .ref a14, .ref a15, .ref a16, .ref a17, .ref a18, .ref a19, .ref a20, .ref a21, .ref a22, .ref a23, .int 0, .int 0, .int 0, .int 0, .int 0, .int 0, .int 0, .ref a31]), rfl, ⟨rfl, rfl, (by first | exact trivial | omega | (simp only [Int32.reduceToInt] at *; omega) | decide)⟩, (by rw [ht]; exact hP9), hD9⟩, hS.F ht⟩) hS.2.2 dX5_first_18
set_option maxHeartbeats 4000000 in
set_option maxRecDepth 100000 in
theorem c_X5_field (l : Launch) (D : va_G) (cI cZ cJ cG : ClassId) (sz : Nat) (h0 : Nat) (a2 : Nat) (a3 : Nat) (a4 : Nat) (a5 : Nat) (a6 : Nat) (a7 : Nat) (a8 : Nat) (a9 : Nat) (a10 : Nat) (a11 : Nat) (a12 : Nat) (a13 : Nat) (a14 : Nat) (a15 : Nat) (a16 : Nat) (a17 : Nat) (a18 : Nat) (a19 : Nat) (a20 : Nat) (a21 : Nat) (a22 : Nat) (a23 : Nat) (a31 : Nat) (p0 : Int32) (p1 : Int32) : Met l yX5_field (pl_h yX5_field cX5_field 4 (some .boolean)) ({ frames := 2, cells := 0, slots := 0, locals := 43 }) (va_Pc [.ref h0, .int p0, .int p1] (pn_M D (pn_Y cI cZ cJ cG) [(h0, .inr (5, [.int 0, .int 0, .ref a2, .ref a3, .ref a4, .ref a5, .ref a6, .ref a7, .ref a8, .ref a9, .ref a10, .ref a11, .ref a12, .ref a13, .ref a14, .ref a15, .ref a16, .ref a17, .ref a18, .ref a19, .ref a20, .ref a21, .ref a22, .ref a23, .int 0, .int 0, .int 0, .int 0, .int 0, .int 0, .int 0, .ref a31]))] sz)) (va_Qi (fun (r : Int32) (u : Int32 × List Value) => (r = 0 ∧ u.1 = 1 ∧ True)) (fun u tz_ => va_P D vwCl [(h0, .inr (5, (.int u.1 :: u.2)))] tz_.heap ∧ va_D (va_A [(h0, .inr (5, [.int 0, .int 0, .ref a2, .ref a3, .ref a4, .ref a5, .ref a6, .ref a7, .ref a8, .ref a9, .ref a10, .ref a11, .ref a12, .ref a13, .ref a14, .ref a15, .ref a16, .ref a17, .ref a18, .ref a19, .ref a20, .ref a21, .ref a22, .ref a23, .int 0, .int 0, .int 0, .int 0, .int 0, .int 0, .int 0, .ref a31]))] sz) [(h0, .inr (5, (.int u.1 :: u.2)))]) (va_A [(h0, .inr (5, [.int 0, .int 0, .ref a2, .ref a3, .ref a4, .ref a5, .ref a6, .ref a7, .ref a8, .ref a9, .ref a10, .ref a11, .ref a12, .ref a13, .ref a14, .ref a15, .ref a16, .ref a17, .ref a18, .ref a19, .ref a20, .ref a21, .ref a22, .ref a23, .int 0, .int 0, .int 0, .int 0, .int 0, .int 0, .int 0, .ref a31]))] sz)) 0 0 (va_A [(h0, .inr (5, [.int 0, .int 0, .ref a2, .ref a3, .ref a4, .ref a5, .ref a6, .ref a7, .ref a8, .ref a9, .ref a10, .ref a11, .ref a12, .ref a13, .ref a14, .ref a15, .ref a16, .ref a17, .ref a18, .ref a19, .ref a20, .ref a21, .ref a22, .ref a23, .int 0, .int 0, .int 0, .int 0, .int 0, .int 0, .int 0, .ref a31]))] sz) := by
  refine Met.ofW (cc := cX5_field) (maxL := 4) (ret := (some .boolean)) (by decide) rfl ?_
  intro p e s m args below meth c s₁ B hml hv
  obtain ⟨rfl, hsz, hP, hK, hD0⟩ := hv
  have hx := B.exec
  have hb := B.bytes
  have hr := B.returns
  have hts0 := atoms_spec (ws := pl_h yX5_field cX5_field 4 (some .boolean)) B.pre
  have hts := fun (w : Cond) (h : w ∈ pw_all) => hts0 w (List.mem_cons_of_mem _ h)
  have hown : s.vm.findClass RX5 = some m.cls := findClass_of_methodNamed B.named
  have hlocks := B.notSynchronized
  subst hsz
  have hD := hD0.self (sz := s.heap.size)
  generalize hAe : va_A [(h0, .inr (5, [.int 0, .int 0, .ref a2, .ref a3, .ref a4, .ref a5, .ref a6, .ref a7, .ref a8, .ref a9, .ref a10, .ref a11, .ref a12, .ref a13, .ref a14, .ref a15, .ref a16, .ref a17, .ref a18, .ref a19, .ref a20, .ref a21, .ref a22, .ref a23, .int 0, .int 0, .int 0, .int 0, .int 0, .int 0, .int 0, .ref a31]))] s.heap.size = A at hD ⊢
  have hA : ∀ q : Nat, s.heap.size ≤ q → A q := fun q h => by rw [← hAe]; exact Or.inr h
  have hS : va_S A s.heap s.heap [] := va_S.rf
  have hl := lv_entry ([.ref h0, .int p0, .int p1]) (n := 4) (Nat.le_of_ble_eq_true rfl)
  rw [lg_entry_eq]
  generalize (lg_sl ([.ref h0, .int p0, .int p1]) ++ List.replicate (4 - (lg_sl ([.ref h0, .int p0, .int p1])).length) Slot.unset).toArray = ls at hl ⊢
  have hl : lv_has ls 4 [(0, .ref h0), (1, .int p0), (2, .int p1)] := hl
  refine lv_aload_n hx hb dX5_field_0 rfl (lv_at hl 0 rfl) ?_
  refine lv_aload_n hx hb dX5_field_1 rfl (lv_at hl 0 rfl) ?_
  refine lv_iload_n hx hb dX5_field_2 rfl (lv_at hl 1 rfl) ?_
  have hPc := hP.sub (ws' := [(h0, .inr (5, [.int 0, .int 0, .ref a2, .ref a3, .ref a4, .ref a5, .ref a6, .ref a7, .ref a8, .ref a9, .ref a10, .ref a11, .ref a12, .ref a13, .ref a14, .ref a15, .ref a16, .ref a17, .ref a18, .ref a19, .ref a20, .ref a21, .ref a22, .ref a23, .int 0, .int 0, .int 0, .int 0, .int 0, .int 0, .int 0, .ref a31]))]) [0] rfl
  refine pn_ci (va_runV (As := [.int p0]) (rest := [.ref h0]) ⟨hx, hb, hml, hown, hts⟩ (c_X5_isTold l D cI cZ cJ cG s.heap.size h0 0 ([.ref a2, .ref a3, .ref a4, .ref a5, .ref a6, .ref a7, .ref a8, .ref a9, .ref a10, .ref a11, .ref a12, .ref a13, .ref a14, .ref a15, .ref a16, .ref a17, .ref a18, .ref a19, .ref a20, .ref a21, .ref a22, .ref a23, .int 0, .int 0, .int 0, .int 0, .int 0, .int 0, .int 0, .ref a31]) p0) (cwV 1 hts (pl_V (pl_m 203 (by decide +kernel)) (pl_m 204 (by decide +kernel)) (pl_m 205 (by decide +kernel)) (pl_m 5 (by decide +kernel)) (pl_m 206 (by decide +kernel))) rfl rfl rfl (by decide +kernel) ⟨(Nat.le_of_ble_eq_true rfl), (Nat.le_of_ble_eq_true rfl)⟩) ⟨pn_B_blind, va_recv hK hPc (ci := 5) (q0 := 0) rfl rfl, (pn_B_at hPc hK)⟩ rfl rfl hl.1 rfl (lv_room (Nat.le_of_ble_eq_true rfl)) dX5_field_3 ⟨(Nat.le_of_ble_eq_true rfl), (Nat.le_of_ble_eq_true rfl)⟩) hS hA hP (fun r_1 H locs hw hP hS => ?_)
  have hP : va_P D vwCl [(h0, .inr (5, [.int 0, .int 0, .ref a2, .ref a3, .ref a4, .ref a5, .ref a6, .ref a7, .ref a8, .ref a9, .ref a10, .ref a11, .ref a12, .ref a13, .ref a14, .ref a15, .ref a16, .ref a17, .ref a18, .ref a19, .ref a20, .ref a21, .ref a22, .ref a23, .int 0, .int 0, .int 0, .int 0, .int 0, .int 0, .int 0, .ref a31]))] H := hP
  obtain ⟨rfl, hw⟩ := hw
  try simp only [Int32.reduceToInt] at hw
  refine lv_if_eq (tgt := 18) hx hb dX5_field_6 (by decide) (fun _ => ?_) (fun h9 => absurd (by decide) h9)
  refine lv_iconst (v := 1) hx hb dX5_field_18 (by decide) ?_
  refine lv_goto (tgt := 49) hx hb dX5_field_19 (by decide) ?_
  refine va_put (D := D) (ci := 5) (v := .int 1) (ty := .int) (C := RX5) (T := TX5) (N := 32) hx hb hts inlX5 tyX5 tyX5_ok nmX5 hown hK hP hD hS 0 rfl rfl 0 (by decide) (hts (.fieldLink RX5 80 "VtableTownModel" "thrown" "I") (pl_m 137 (by decide +kernel))) (fun _ h9 => h9) rfl (by decide +kernel) rfl rfl (Nat.le_of_ble_eq_true rfl) dX5_field_49 (fun H locs hP hD hS => ?_)
  have hP : va_P D vwCl [(h0, .inr (5, [.int 1, .int 0, .ref a2, .ref a3, .ref a4, .ref a5, .ref a6, .ref a7, .ref a8, .ref a9, .ref a10, .ref a11, .ref a12, .ref a13, .ref a14, .ref a15, .ref a16, .ref a17, .ref a18, .ref a19, .ref a20, .ref a21, .ref a22, .ref a23, .int 0, .int 0, .int 0, .int 0, .int 0, .int 0, .int 0, .ref a31]))] H := hP
  have hD : va_D (A) [(h0, .inr (5, [.int 1, .int 0, .ref a2, .ref a3, .ref a4, .ref a5, .ref a6, .ref a7, .ref a8, .ref a9, .ref a10, .ref a11, .ref a12, .ref a13, .ref a14, .ref a15, .ref a16, .ref a17, .ref a18, .ref a19, .ref a20, .ref a21, .ref a22, .ref a23, .int 0, .int 0, .int 0, .int 0, .int 0, .int 0, .int 0, .ref a31]))] := hD
  refine lv_aload_n hx hb dX5_field_52 rfl (lv_at hl 0 rfl) ?_
  refine va_get (D := D) (ci := 5) (v := .int 1) (C := RX5) (T := TX5) (N := 32) hx hb hts inlX5 hown hK hP 0 rfl rfl 0 (by decide) (hts (.fieldLink RX5 80 "VtableTownModel" "thrown" "I") (pl_m 137 (by decide +kernel))) (fun _ h9 => h9) rfl dX5_field_53 ?_
  refine lv_if_le (tgt := 61) hx hb dX5_field_56 (by decide) (fun h9 => absurd h9 (by decide)) (fun _ => ?_)
  refine lv_iconst (v := 0) hx hb dX5_field_59 (by decide) ?_
  have hP9 := hP.sub (ws' := [(h0, .inr (5, [.int 1, .int 0, .ref a2, .ref a3, .ref a4, .ref a5, .ref a6, .ref a7, .ref a8, .ref a9, .ref a10, .ref a11, .ref a12, .ref a13, .ref a14, .ref a15, .ref a16, .ref a17, .ref a18, .ref a19, .ref a20, .ref a21, .ref a22, .ref a23, .int 0, .int 0, .int 0, .int 0, .int 0, .int 0, .int 0, .ref a31]))]) [0] rfl
  have hD9 := hD.sub (ws' := [(h0, .inr (5, [.int 1, .int 0, .ref a2, .ref a3, .ref a4, .ref a5, .ref a6, .ref a7, .ref a8, .ref a9, .ref a10, .ref a11, .ref a12, .ref a13, .ref a14, .ref a15, .ref a16, .ref a17, .ref a18, .ref a19, .ref a20, .ref a21, .ref a22, .ref a23, .int 0, .int 0, .int 0, .int 0, .int 0, .int 0, .int 0, .ref a31]))]) [0] (by decide) rfl
  exact W.zret (v := 0) (ty := .boolean) hx hb hr (by decide) (fun tz_ ht hW => ⟨⟨0, (1, [.int 0, .ref a2, .ref a3, .ref a4, .ref a5, .ref a6, .ref a7, .ref a8, .ref a9, .ref a10, .ref a11, .ref a12, .ref a13, .ref a14, .ref a15, .ref a16, .ref a17, .ref a18, .ref a19, .ref a20, .ref a21, .ref a22, .ref a23, .int 0, .int 0, .int 0, .int 0, .int 0, .int 0, .int 0, .ref a31]), rfl, ⟨rfl, rfl, (by first | exact trivial | omega | (simp only [Int32.reduceToInt] at *; omega) | decide)⟩, (by rw [ht]; exact hP9), hD9⟩, hS.F ht⟩) hS.2.2 dX5_field_60
set_option maxHeartbeats 4000000 in
set_option maxRecDepth 100000 in
theorem c_X5_ofClass (l : Launch) (D : va_G) (cI cZ cJ cG : ClassId) (sz : Nat) (h0 : Nat) (a2 : Nat) (a3 : Nat) (a4 : Nat) (a5 : Nat) (a6 : Nat) (a7 : Nat) (a8 : Nat) (a9 : Nat) (a10 : Nat) (a11 : Nat) (a12 : Nat) (a13 : Nat) (a14 : Nat) (a15 : Nat) (a16 : Nat) (a17 : Nat) (a18 : Nat) (a19 : Nat) (a20 : Nat) (a21 : Nat) (a22 : Nat) (a23 : Nat) (a31 : Nat) (p0 : Int32) (p1 : Int32) : Met l yX5_ofClass (pl_h yX5_ofClass cX5_ofClass 3 (some .int)) ({ frames := 2, cells := 0, slots := 0, locals := 43 }) (va_Pc [.ref h0, .int p0, .int p1] (pn_M D (pn_Y cI cZ cJ cG) [(h0, .inr (5, [.int 0, .int 0, .ref a2, .ref a3, .ref a4, .ref a5, .ref a6, .ref a7, .ref a8, .ref a9, .ref a10, .ref a11, .ref a12, .ref a13, .ref a14, .ref a15, .ref a16, .ref a17, .ref a18, .ref a19, .ref a20, .ref a21, .ref a22, .ref a23, .int 0, .int 0, .int 0, .int 0, .int 0, .int 0, .int 0, .ref a31]))] sz)) (va_Qi (fun (r : Int32) (u : Int32 × List Value) => (r = 0 ∧ u.1 = 1 ∧ True)) (fun u tz_ => va_P D vwCl [(h0, .inr (5, (.int u.1 :: u.2)))] tz_.heap ∧ va_D (va_A [(h0, .inr (5, [.int 0, .int 0, .ref a2, .ref a3, .ref a4, .ref a5, .ref a6, .ref a7, .ref a8, .ref a9, .ref a10, .ref a11, .ref a12, .ref a13, .ref a14, .ref a15, .ref a16, .ref a17, .ref a18, .ref a19, .ref a20, .ref a21, .ref a22, .ref a23, .int 0, .int 0, .int 0, .int 0, .int 0, .int 0, .int 0, .ref a31]))] sz) [(h0, .inr (5, (.int u.1 :: u.2)))]) (va_A [(h0, .inr (5, [.int 0, .int 0, .ref a2, .ref a3, .ref a4, .ref a5, .ref a6, .ref a7, .ref a8, .ref a9, .ref a10, .ref a11, .ref a12, .ref a13, .ref a14, .ref a15, .ref a16, .ref a17, .ref a18, .ref a19, .ref a20, .ref a21, .ref a22, .ref a23, .int 0, .int 0, .int 0, .int 0, .int 0, .int 0, .int 0, .ref a31]))] sz)) 0 0 (va_A [(h0, .inr (5, [.int 0, .int 0, .ref a2, .ref a3, .ref a4, .ref a5, .ref a6, .ref a7, .ref a8, .ref a9, .ref a10, .ref a11, .ref a12, .ref a13, .ref a14, .ref a15, .ref a16, .ref a17, .ref a18, .ref a19, .ref a20, .ref a21, .ref a22, .ref a23, .int 0, .int 0, .int 0, .int 0, .int 0, .int 0, .int 0, .ref a31]))] sz) := by
  refine Met.ofW (cc := cX5_ofClass) (maxL := 3) (ret := (some .int)) (by decide) rfl ?_
  intro p e s m args below meth c s₁ B hml hv
  obtain ⟨rfl, hsz, hP, hK, hD0⟩ := hv
  have hx := B.exec
  have hb := B.bytes
  have hr := B.returns
  have hts0 := atoms_spec (ws := pl_h yX5_ofClass cX5_ofClass 3 (some .int)) B.pre
  have hts := fun (w : Cond) (h : w ∈ pw_all) => hts0 w (List.mem_cons_of_mem _ h)
  have hown : s.vm.findClass RX5 = some m.cls := findClass_of_methodNamed B.named
  have hlocks := B.notSynchronized
  subst hsz
  have hD := hD0.self (sz := s.heap.size)
  generalize hAe : va_A [(h0, .inr (5, [.int 0, .int 0, .ref a2, .ref a3, .ref a4, .ref a5, .ref a6, .ref a7, .ref a8, .ref a9, .ref a10, .ref a11, .ref a12, .ref a13, .ref a14, .ref a15, .ref a16, .ref a17, .ref a18, .ref a19, .ref a20, .ref a21, .ref a22, .ref a23, .int 0, .int 0, .int 0, .int 0, .int 0, .int 0, .int 0, .ref a31]))] s.heap.size = A at hD ⊢
  have hA : ∀ q : Nat, s.heap.size ≤ q → A q := fun q h => by rw [← hAe]; exact Or.inr h
  have hS : va_S A s.heap s.heap [] := va_S.rf
  have hl := lv_entry ([.ref h0, .int p0, .int p1]) (n := 3) (Nat.le_of_ble_eq_true rfl)
  rw [lg_entry_eq]
  generalize (lg_sl ([.ref h0, .int p0, .int p1]) ++ List.replicate (3 - (lg_sl ([.ref h0, .int p0, .int p1])).length) Slot.unset).toArray = ls at hl ⊢
  have hl : lv_has ls 3 [(0, .ref h0), (1, .int p0), (2, .int p1)] := hl
  refine lv_aload_n hx hb dX5_ofClass_0 rfl (lv_at hl 0 rfl) ?_
  refine lv_iconst (v := 0) hx hb dX5_ofClass_1 (by decide) ?_
  refine va_put (D := D) (ci := 5) (v := .int 0) (ty := .int) (C := RX5) (T := TX5) (N := 32) hx hb hts inlX5 tyX5 tyX5_ok nmX5 hown hK hP hD hS 0 rfl rfl 0 (by decide) (hts (.fieldLink RX5 80 "VtableTownModel" "thrown" "I") (pl_m 137 (by decide +kernel))) (fun _ h9 => h9) rfl (by decide +kernel) rfl rfl (Nat.le_of_ble_eq_true rfl) dX5_ofClass_2 (fun H locs hP hD hS => ?_)
  have hP : va_P D vwCl [(h0, .inr (5, [.int 0, .int 0, .ref a2, .ref a3, .ref a4, .ref a5, .ref a6, .ref a7, .ref a8, .ref a9, .ref a10, .ref a11, .ref a12, .ref a13, .ref a14, .ref a15, .ref a16, .ref a17, .ref a18, .ref a19, .ref a20, .ref a21, .ref a22, .ref a23, .int 0, .int 0, .int 0, .int 0, .int 0, .int 0, .int 0, .ref a31]))] H := hP
  have hD : va_D (A) [(h0, .inr (5, [.int 0, .int 0, .ref a2, .ref a3, .ref a4, .ref a5, .ref a6, .ref a7, .ref a8, .ref a9, .ref a10, .ref a11, .ref a12, .ref a13, .ref a14, .ref a15, .ref a16, .ref a17, .ref a18, .ref a19, .ref a20, .ref a21, .ref a22, .ref a23, .int 0, .int 0, .int 0, .int 0, .int 0, .int 0, .int 0, .ref a31]))] := hD
  refine lv_aload_n hx hb dX5_ofClass_5 rfl (lv_at hl 0 rfl) ?_
  refine lv_iload_n hx hb dX5_ofClass_6 rfl (lv_at hl 1 rfl) ?_
  have hPc := hP.sub (ws' := [(h0, .inr (5, [.int 0, .int 0, .ref a2, .ref a3, .ref a4, .ref a5, .ref a6, .ref a7, .ref a8, .ref a9, .ref a10, .ref a11, .ref a12, .ref a13, .ref a14, .ref a15, .ref a16, .ref a17, .ref a18, .ref a19, .ref a20, .ref a21, .ref a22, .ref a23, .int 0, .int 0, .int 0, .int 0, .int 0, .int 0, .int 0, .ref a31]))]) [0] rfl
  refine pn_ci (va_runV (As := [.int p0]) (rest := []) ⟨hx, hb, hml, hown, hts⟩ (c_X5_isTold l D cI cZ cJ cG H.size h0 0 ([.ref a2, .ref a3, .ref a4, .ref a5, .ref a6, .ref a7, .ref a8, .ref a9, .ref a10, .ref a11, .ref a12, .ref a13, .ref a14, .ref a15, .ref a16, .ref a17, .ref a18, .ref a19, .ref a20, .ref a21, .ref a22, .ref a23, .int 0, .int 0, .int 0, .int 0, .int 0, .int 0, .int 0, .ref a31]) p0) (cwV 1 hts (pl_V (pl_m 203 (by decide +kernel)) (pl_m 204 (by decide +kernel)) (pl_m 205 (by decide +kernel)) (pl_m 5 (by decide +kernel)) (pl_m 206 (by decide +kernel))) rfl rfl rfl (by decide +kernel) ⟨(Nat.le_of_ble_eq_true rfl), (Nat.le_of_ble_eq_true rfl)⟩) ⟨pn_B_blind, va_recv hK hPc (ci := 5) (q0 := 0) rfl rfl, (pn_B_at hPc hK)⟩ rfl rfl hl.1 rfl (lv_room (Nat.le_of_ble_eq_true rfl)) dX5_ofClass_7 ⟨(Nat.le_of_ble_eq_true rfl), (Nat.le_of_ble_eq_true rfl)⟩) hS hA hP (fun r_1 H locs hw hP hS => ?_)
  have hP : va_P D vwCl [(h0, .inr (5, [.int 0, .int 0, .ref a2, .ref a3, .ref a4, .ref a5, .ref a6, .ref a7, .ref a8, .ref a9, .ref a10, .ref a11, .ref a12, .ref a13, .ref a14, .ref a15, .ref a16, .ref a17, .ref a18, .ref a19, .ref a20, .ref a21, .ref a22, .ref a23, .int 0, .int 0, .int 0, .int 0, .int 0, .int 0, .int 0, .ref a31]))] H := hP
  obtain ⟨rfl, hw⟩ := hw
  try simp only [Int32.reduceToInt] at hw
  refine lv_if_ne (tgt := 19) hx hb dX5_ofClass_10 (by decide) (fun h9 => absurd (by decide) h9) (fun _ => ?_)
  refine lv_aload_n hx hb dX5_ofClass_13 rfl (lv_at hl 0 rfl) ?_
  refine lv_iconst (v := 1) hx hb dX5_ofClass_14 (by decide) ?_
  have hPc := hP.sub (ws' := [(h0, .inr (5, [.int 0, .int 0, .ref a2, .ref a3, .ref a4, .ref a5, .ref a6, .ref a7, .ref a8, .ref a9, .ref a10, .ref a11, .ref a12, .ref a13, .ref a14, .ref a15, .ref a16, .ref a17, .ref a18, .ref a19, .ref a20, .ref a21, .ref a22, .ref a23, .int 0, .int 0, .int 0, .int 0, .int 0, .int 0, .int 0, .ref a31]))]) [0] rfl
  have hDc := hD.sub (ws' := [(h0, .inr (5, [.int 0, .int 0, .ref a2, .ref a3, .ref a4, .ref a5, .ref a6, .ref a7, .ref a8, .ref a9, .ref a10, .ref a11, .ref a12, .ref a13, .ref a14, .ref a15, .ref a16, .ref a17, .ref a18, .ref a19, .ref a20, .ref a21, .ref a22, .ref a23, .int 0, .int 0, .int 0, .int 0, .int 0, .int 0, .int 0, .ref a31]))]) [0] (by decide) rfl
  refine pn_mi (w1 := fun (u : Unit) => [(h0, .inr (5, [.int 1, .int 0, .ref a2, .ref a3, .ref a4, .ref a5, .ref a6, .ref a7, .ref a8, .ref a9, .ref a10, .ref a11, .ref a12, .ref a13, .ref a14, .ref a15, .ref a16, .ref a17, .ref a18, .ref a19, .ref a20, .ref a21, .ref a22, .ref a23, .int 0, .int 0, .int 0, .int 0, .int 0, .int 0, .int 0, .ref a31]))]) (wr := []) (wc := [(h0, .inr (5, [.int 0, .int 0, .ref a2, .ref a3, .ref a4, .ref a5, .ref a6, .ref a7, .ref a8, .ref a9, .ref a10, .ref a11, .ref a12, .ref a13, .ref a14, .ref a15, .ref a16, .ref a17, .ref a18, .ref a19, .ref a20, .ref a21, .ref a22, .ref a23, .int 0, .int 0, .int 0, .int 0, .int 0, .int 0, .int 0, .ref a31]))]) [0] [] (va_runV (As := [.int 1]) (rest := []) ⟨hx, hb, hml, hown, hts⟩ (c_X5_no l D cI cZ cJ cG H.size h0 a2 a3 a4 a5 a6 a7 a8 a9 a10 a11 a12 a13 a14 a15 a16 a17 a18 a19 a20 a21 a22 a23 a31 0 1) (cwV 1 hts (pl_V (pl_m 142 (by decide +kernel)) (pl_m 143 (by decide +kernel)) (pl_m 144 (by decide +kernel)) (pl_m 5 (by decide +kernel)) (pl_m 145 (by decide +kernel))) rfl rfl rfl (by decide +kernel) ⟨(Nat.le_of_ble_eq_true rfl), (Nat.le_of_ble_eq_true rfl)⟩) ⟨pn_M_blind, va_recv hK hPc (ci := 5) (q0 := 0) rfl rfl, (pn_M_at hPc hDc hK)⟩ rfl rfl hl.1 rfl (lv_room (Nat.le_of_ble_eq_true rfl)) dX5_ofClass_15 ⟨(Nat.le_of_ble_eq_true rfl), (Nat.le_of_ble_eq_true rfl)⟩) hS hA hP hD rfl rfl (by decide) (by decide) (fun r_2 u_2 H locs hw hP hD hS => ?_)
  have hP : va_P D vwCl [(h0, .inr (5, [.int 1, .int 0, .ref a2, .ref a3, .ref a4, .ref a5, .ref a6, .ref a7, .ref a8, .ref a9, .ref a10, .ref a11, .ref a12, .ref a13, .ref a14, .ref a15, .ref a16, .ref a17, .ref a18, .ref a19, .ref a20, .ref a21, .ref a22, .ref a23, .int 0, .int 0, .int 0, .int 0, .int 0, .int 0, .int 0, .ref a31]))] H := hP
  have hD : va_D (A) [(h0, .inr (5, [.int 1, .int 0, .ref a2, .ref a3, .ref a4, .ref a5, .ref a6, .ref a7, .ref a8, .ref a9, .ref a10, .ref a11, .ref a12, .ref a13, .ref a14, .ref a15, .ref a16, .ref a17, .ref a18, .ref a19, .ref a20, .ref a21, .ref a22, .ref a23, .int 0, .int 0, .int 0, .int 0, .int 0, .int 0, .int 0, .ref a31]))] := hD
  obtain ⟨rfl, hw⟩ := hw
  try simp only [Int32.reduceToInt] at hw
  have hP9 := hP.sub (ws' := [(h0, .inr (5, [.int 1, .int 0, .ref a2, .ref a3, .ref a4, .ref a5, .ref a6, .ref a7, .ref a8, .ref a9, .ref a10, .ref a11, .ref a12, .ref a13, .ref a14, .ref a15, .ref a16, .ref a17, .ref a18, .ref a19, .ref a20, .ref a21, .ref a22, .ref a23, .int 0, .int 0, .int 0, .int 0, .int 0, .int 0, .int 0, .ref a31]))]) [0] rfl
  have hD9 := hD.sub (ws' := [(h0, .inr (5, [.int 1, .int 0, .ref a2, .ref a3, .ref a4, .ref a5, .ref a6, .ref a7, .ref a8, .ref a9, .ref a10, .ref a11, .ref a12, .ref a13, .ref a14, .ref a15, .ref a16, .ref a17, .ref a18, .ref a19, .ref a20, .ref a21, .ref a22, .ref a23, .int 0, .int 0, .int 0, .int 0, .int 0, .int 0, .int 0, .ref a31]))]) [0] (by decide) rfl
  exact W.iret (v := 0) hx hb hr (fun tz_ ht hW => ⟨⟨0, (1, [.int 0, .ref a2, .ref a3, .ref a4, .ref a5, .ref a6, .ref a7, .ref a8, .ref a9, .ref a10, .ref a11, .ref a12, .ref a13, .ref a14, .ref a15, .ref a16, .ref a17, .ref a18, .ref a19, .ref a20, .ref a21, .ref a22, .ref a23, .int 0, .int 0, .int 0, .int 0, .int 0, .int 0, .int 0, .ref a31]), rfl, ⟨rfl, rfl, (by first | exact trivial | omega | (simp only [Int32.reduceToInt] at *; omega) | decide)⟩, (by rw [ht]; exact hP9), hD9⟩, hS.F ht⟩) hS.2.2 dX5_ofClass_18
set_option maxHeartbeats 4000000 in
set_option maxRecDepth 100000 in
theorem c_X5_finds (l : Launch) (D : va_G) (cI cZ cJ cG : ClassId) (sz : Nat) (h0 : Nat) (a2 : Nat) (a3 : Nat) (a4 : Nat) (a5 : Nat) (a6 : Nat) (a7 : Nat) (a8 : Nat) (a9 : Nat) (a10 : Nat) (a11 : Nat) (a12 : Nat) (a13 : Nat) (a14 : Nat) (a15 : Nat) (a16 : Nat) (a17 : Nat) (a18 : Nat) (a19 : Nat) (a20 : Nat) (a21 : Nat) (a22 : Nat) (a23 : Nat) (a31 : Nat) (p0 : Int32) (p1 : Int32) : Met l yX5_finds (pl_h yX5_finds cX5_finds 3 (some .int)) ({ frames := 3, cells := 0, slots := 0, locals := 64 }) (va_Pc [.ref h0, .int p0, .int p1] (pn_M D (pn_Y cI cZ cJ cG) [(h0, .inr (5, [.int 0, .int 0, .ref a2, .ref a3, .ref a4, .ref a5, .ref a6, .ref a7, .ref a8, .ref a9, .ref a10, .ref a11, .ref a12, .ref a13, .ref a14, .ref a15, .ref a16, .ref a17, .ref a18, .ref a19, .ref a20, .ref a21, .ref a22, .ref a23, .int 0, .int 0, .int 0, .int 0, .int 0, .int 0, .int 0, .ref a31]))] sz)) (va_Qi (fun (r : Int32) (u : Int32 × List Value) => (r = 0 ∧ u.1 = 1 ∧ True)) (fun u tz_ => va_P D vwCl [(h0, .inr (5, (.int u.1 :: u.2)))] tz_.heap ∧ va_D (va_A [(h0, .inr (5, [.int 0, .int 0, .ref a2, .ref a3, .ref a4, .ref a5, .ref a6, .ref a7, .ref a8, .ref a9, .ref a10, .ref a11, .ref a12, .ref a13, .ref a14, .ref a15, .ref a16, .ref a17, .ref a18, .ref a19, .ref a20, .ref a21, .ref a22, .ref a23, .int 0, .int 0, .int 0, .int 0, .int 0, .int 0, .int 0, .ref a31]))] sz) [(h0, .inr (5, (.int u.1 :: u.2)))]) (va_A [(h0, .inr (5, [.int 0, .int 0, .ref a2, .ref a3, .ref a4, .ref a5, .ref a6, .ref a7, .ref a8, .ref a9, .ref a10, .ref a11, .ref a12, .ref a13, .ref a14, .ref a15, .ref a16, .ref a17, .ref a18, .ref a19, .ref a20, .ref a21, .ref a22, .ref a23, .int 0, .int 0, .int 0, .int 0, .int 0, .int 0, .int 0, .ref a31]))] sz)) 0 0 (va_A [(h0, .inr (5, [.int 0, .int 0, .ref a2, .ref a3, .ref a4, .ref a5, .ref a6, .ref a7, .ref a8, .ref a9, .ref a10, .ref a11, .ref a12, .ref a13, .ref a14, .ref a15, .ref a16, .ref a17, .ref a18, .ref a19, .ref a20, .ref a21, .ref a22, .ref a23, .int 0, .int 0, .int 0, .int 0, .int 0, .int 0, .int 0, .ref a31]))] sz) := by
  refine Met.ofW (cc := cX5_finds) (maxL := 3) (ret := (some .int)) (by decide) rfl ?_
  intro p e s m args below meth c s₁ B hml hv
  obtain ⟨rfl, hsz, hP, hK, hD0⟩ := hv
  have hx := B.exec
  have hb := B.bytes
  have hr := B.returns
  have hts0 := atoms_spec (ws := pl_h yX5_finds cX5_finds 3 (some .int)) B.pre
  have hts := fun (w : Cond) (h : w ∈ pw_all) => hts0 w (List.mem_cons_of_mem _ h)
  have hown : s.vm.findClass RX5 = some m.cls := findClass_of_methodNamed B.named
  have hlocks := B.notSynchronized
  subst hsz
  have hD := hD0.self (sz := s.heap.size)
  generalize hAe : va_A [(h0, .inr (5, [.int 0, .int 0, .ref a2, .ref a3, .ref a4, .ref a5, .ref a6, .ref a7, .ref a8, .ref a9, .ref a10, .ref a11, .ref a12, .ref a13, .ref a14, .ref a15, .ref a16, .ref a17, .ref a18, .ref a19, .ref a20, .ref a21, .ref a22, .ref a23, .int 0, .int 0, .int 0, .int 0, .int 0, .int 0, .int 0, .ref a31]))] s.heap.size = A at hD ⊢
  have hA : ∀ q : Nat, s.heap.size ≤ q → A q := fun q h => by rw [← hAe]; exact Or.inr h
  have hS : va_S A s.heap s.heap [] := va_S.rf
  have hl := lv_entry ([.ref h0, .int p0, .int p1]) (n := 3) (Nat.le_of_ble_eq_true rfl)
  rw [lg_entry_eq]
  generalize (lg_sl ([.ref h0, .int p0, .int p1]) ++ List.replicate (3 - (lg_sl ([.ref h0, .int p0, .int p1])).length) Slot.unset).toArray = ls at hl ⊢
  have hl : lv_has ls 3 [(0, .ref h0), (1, .int p0), (2, .int p1)] := hl
  refine lv_aload_n hx hb dX5_finds_0 rfl (lv_at hl 0 rfl) ?_
  refine lv_iconst (v := 0) hx hb dX5_finds_1 (by decide) ?_
  refine va_put (D := D) (ci := 5) (v := .int 0) (ty := .int) (C := RX5) (T := TX5) (N := 32) hx hb hts inlX5 tyX5 tyX5_ok nmX5 hown hK hP hD hS 0 rfl rfl 0 (by decide) (hts (.fieldLink RX5 80 "VtableTownModel" "thrown" "I") (pl_m 137 (by decide +kernel))) (fun _ h9 => h9) rfl (by decide +kernel) rfl rfl (Nat.le_of_ble_eq_true rfl) dX5_finds_2 (fun H locs hP hD hS => ?_)
  have hP : va_P D vwCl [(h0, .inr (5, [.int 0, .int 0, .ref a2, .ref a3, .ref a4, .ref a5, .ref a6, .ref a7, .ref a8, .ref a9, .ref a10, .ref a11, .ref a12, .ref a13, .ref a14, .ref a15, .ref a16, .ref a17, .ref a18, .ref a19, .ref a20, .ref a21, .ref a22, .ref a23, .int 0, .int 0, .int 0, .int 0, .int 0, .int 0, .int 0, .ref a31]))] H := hP
  have hD : va_D (A) [(h0, .inr (5, [.int 0, .int 0, .ref a2, .ref a3, .ref a4, .ref a5, .ref a6, .ref a7, .ref a8, .ref a9, .ref a10, .ref a11, .ref a12, .ref a13, .ref a14, .ref a15, .ref a16, .ref a17, .ref a18, .ref a19, .ref a20, .ref a21, .ref a22, .ref a23, .int 0, .int 0, .int 0, .int 0, .int 0, .int 0, .int 0, .ref a31]))] := hD
  refine lv_aload_n hx hb dX5_finds_5 rfl (lv_at hl 0 rfl) ?_
  refine lv_iload_n hx hb dX5_finds_6 rfl (lv_at hl 1 rfl) ?_
  have hPc := hP.sub (ws' := [(h0, .inr (5, [.int 0, .int 0, .ref a2, .ref a3, .ref a4, .ref a5, .ref a6, .ref a7, .ref a8, .ref a9, .ref a10, .ref a11, .ref a12, .ref a13, .ref a14, .ref a15, .ref a16, .ref a17, .ref a18, .ref a19, .ref a20, .ref a21, .ref a22, .ref a23, .int 0, .int 0, .int 0, .int 0, .int 0, .int 0, .int 0, .ref a31]))]) [0] rfl
  refine pn_ci (va_runV (As := [.int p0]) (rest := []) ⟨hx, hb, hml, hown, hts⟩ (c_X5_isReal l D cI cZ cJ cG H.size h0 0 ([.ref a2, .ref a3, .ref a4, .ref a5, .ref a6, .ref a7, .ref a8, .ref a9, .ref a10, .ref a11, .ref a12, .ref a13, .ref a14, .ref a15, .ref a16, .ref a17, .ref a18, .ref a19, .ref a20, .ref a21, .ref a22, .ref a23, .int 0, .int 0, .int 0, .int 0, .int 0, .int 0, .int 0, .ref a31]) p0) (cwV 1 hts (pl_V (pl_m 668 (by decide +kernel)) (pl_m 669 (by decide +kernel)) (pl_m 670 (by decide +kernel)) (pl_m 5 (by decide +kernel)) (pl_m 671 (by decide +kernel))) rfl rfl rfl (by decide +kernel) ⟨(Nat.le_of_ble_eq_true rfl), (Nat.le_of_ble_eq_true rfl)⟩) ⟨pn_B_blind, va_recv hK hPc (ci := 5) (q0 := 0) rfl rfl, (pn_B_at hPc hK)⟩ rfl rfl hl.1 rfl (lv_room (Nat.le_of_ble_eq_true rfl)) dX5_finds_7 ⟨(Nat.le_of_ble_eq_true rfl), (Nat.le_of_ble_eq_true rfl)⟩) hS hA hP (fun r_1 H locs hw hP hS => ?_)
  have hP : va_P D vwCl [(h0, .inr (5, [.int 0, .int 0, .ref a2, .ref a3, .ref a4, .ref a5, .ref a6, .ref a7, .ref a8, .ref a9, .ref a10, .ref a11, .ref a12, .ref a13, .ref a14, .ref a15, .ref a16, .ref a17, .ref a18, .ref a19, .ref a20, .ref a21, .ref a22, .ref a23, .int 0, .int 0, .int 0, .int 0, .int 0, .int 0, .int 0, .ref a31]))] H := hP
  obtain ⟨rfl, hw⟩ := hw
  try simp only [Int32.reduceToInt] at hw
  refine lv_if_eq (tgt := 29) hx hb dX5_finds_10 (by decide) (fun _ => ?_) (fun h9 => absurd (by decide) h9)
  refine lv_aload_n hx hb dX5_finds_29 rfl (lv_at hl 0 rfl) ?_
  refine lv_iconst (v := 1) hx hb dX5_finds_30 (by decide) ?_
  have hPc := hP.sub (ws' := [(h0, .inr (5, [.int 0, .int 0, .ref a2, .ref a3, .ref a4, .ref a5, .ref a6, .ref a7, .ref a8, .ref a9, .ref a10, .ref a11, .ref a12, .ref a13, .ref a14, .ref a15, .ref a16, .ref a17, .ref a18, .ref a19, .ref a20, .ref a21, .ref a22, .ref a23, .int 0, .int 0, .int 0, .int 0, .int 0, .int 0, .int 0, .ref a31]))]) [0] rfl
  have hDc := hD.sub (ws' := [(h0, .inr (5, [.int 0, .int 0, .ref a2, .ref a3, .ref a4, .ref a5, .ref a6, .ref a7, .ref a8, .ref a9, .ref a10, .ref a11, .ref a12, .ref a13, .ref a14, .ref a15, .ref a16, .ref a17, .ref a18, .ref a19, .ref a20, .ref a21, .ref a22, .ref a23, .int 0, .int 0, .int 0, .int 0, .int 0, .int 0, .int 0, .ref a31]))]) [0] (by decide) rfl
  refine pn_mi (w1 := fun (u : Unit) => [(h0, .inr (5, [.int 1, .int 0, .ref a2, .ref a3, .ref a4, .ref a5, .ref a6, .ref a7, .ref a8, .ref a9, .ref a10, .ref a11, .ref a12, .ref a13, .ref a14, .ref a15, .ref a16, .ref a17, .ref a18, .ref a19, .ref a20, .ref a21, .ref a22, .ref a23, .int 0, .int 0, .int 0, .int 0, .int 0, .int 0, .int 0, .ref a31]))]) (wr := []) (wc := [(h0, .inr (5, [.int 0, .int 0, .ref a2, .ref a3, .ref a4, .ref a5, .ref a6, .ref a7, .ref a8, .ref a9, .ref a10, .ref a11, .ref a12, .ref a13, .ref a14, .ref a15, .ref a16, .ref a17, .ref a18, .ref a19, .ref a20, .ref a21, .ref a22, .ref a23, .int 0, .int 0, .int 0, .int 0, .int 0, .int 0, .int 0, .ref a31]))]) [0] [] (va_runV (As := [.int 1]) (rest := []) ⟨hx, hb, hml, hown, hts⟩ (c_X5_no l D cI cZ cJ cG H.size h0 a2 a3 a4 a5 a6 a7 a8 a9 a10 a11 a12 a13 a14 a15 a16 a17 a18 a19 a20 a21 a22 a23 a31 0 1) (cwV 1 hts (pl_V (pl_m 142 (by decide +kernel)) (pl_m 143 (by decide +kernel)) (pl_m 144 (by decide +kernel)) (pl_m 5 (by decide +kernel)) (pl_m 145 (by decide +kernel))) rfl rfl rfl (by decide +kernel) ⟨(Nat.le_of_ble_eq_true rfl), (Nat.le_of_ble_eq_true rfl)⟩) ⟨pn_M_blind, va_recv hK hPc (ci := 5) (q0 := 0) rfl rfl, (pn_M_at hPc hDc hK)⟩ rfl rfl hl.1 rfl (lv_room (Nat.le_of_ble_eq_true rfl)) dX5_finds_31 ⟨(Nat.le_of_ble_eq_true rfl), (Nat.le_of_ble_eq_true rfl)⟩) hS hA hP hD rfl rfl (by decide) (by decide) (fun r_2 u_2 H locs hw hP hD hS => ?_)
  have hP : va_P D vwCl [(h0, .inr (5, [.int 1, .int 0, .ref a2, .ref a3, .ref a4, .ref a5, .ref a6, .ref a7, .ref a8, .ref a9, .ref a10, .ref a11, .ref a12, .ref a13, .ref a14, .ref a15, .ref a16, .ref a17, .ref a18, .ref a19, .ref a20, .ref a21, .ref a22, .ref a23, .int 0, .int 0, .int 0, .int 0, .int 0, .int 0, .int 0, .ref a31]))] H := hP
  have hD : va_D (A) [(h0, .inr (5, [.int 1, .int 0, .ref a2, .ref a3, .ref a4, .ref a5, .ref a6, .ref a7, .ref a8, .ref a9, .ref a10, .ref a11, .ref a12, .ref a13, .ref a14, .ref a15, .ref a16, .ref a17, .ref a18, .ref a19, .ref a20, .ref a21, .ref a22, .ref a23, .int 0, .int 0, .int 0, .int 0, .int 0, .int 0, .int 0, .ref a31]))] := hD
  obtain ⟨rfl, hw⟩ := hw
  try simp only [Int32.reduceToInt] at hw
  have hP9 := hP.sub (ws' := [(h0, .inr (5, [.int 1, .int 0, .ref a2, .ref a3, .ref a4, .ref a5, .ref a6, .ref a7, .ref a8, .ref a9, .ref a10, .ref a11, .ref a12, .ref a13, .ref a14, .ref a15, .ref a16, .ref a17, .ref a18, .ref a19, .ref a20, .ref a21, .ref a22, .ref a23, .int 0, .int 0, .int 0, .int 0, .int 0, .int 0, .int 0, .ref a31]))]) [0] rfl
  have hD9 := hD.sub (ws' := [(h0, .inr (5, [.int 1, .int 0, .ref a2, .ref a3, .ref a4, .ref a5, .ref a6, .ref a7, .ref a8, .ref a9, .ref a10, .ref a11, .ref a12, .ref a13, .ref a14, .ref a15, .ref a16, .ref a17, .ref a18, .ref a19, .ref a20, .ref a21, .ref a22, .ref a23, .int 0, .int 0, .int 0, .int 0, .int 0, .int 0, .int 0, .ref a31]))]) [0] (by decide) rfl
  exact W.iret (v := 0) hx hb hr (fun tz_ ht hW => ⟨⟨0, (1, [.int 0, .ref a2, .ref a3, .ref a4, .ref a5, .ref a6, .ref a7, .ref a8, .ref a9, .ref a10, .ref a11, .ref a12, .ref a13, .ref a14, .ref a15, .ref a16, .ref a17, .ref a18, .ref a19, .ref a20, .ref a21, .ref a22, .ref a23, .int 0, .int 0, .int 0, .int 0, .int 0, .int 0, .int 0, .ref a31]), rfl, ⟨rfl, rfl, (by first | exact trivial | omega | (simp only [Int32.reduceToInt] at *; omega) | decide)⟩, (by rw [ht]; exact hP9), hD9⟩, hS.F ht⟩) hS.2.2 dX5_finds_34
set_option maxHeartbeats 4000000 in
set_option maxRecDepth 100000 in
theorem c_X5_slot (l : Launch) (D : va_G) (cI cZ cJ cG : ClassId) (sz : Nat) (h0 : Nat) (a2 : Nat) (a3 : Nat) (a4 : Nat) (a5 : Nat) (a6 : Nat) (a7 : Nat) (a8 : Nat) (a9 : Nat) (a10 : Nat) (a11 : Nat) (a12 : Nat) (a13 : Nat) (a14 : Nat) (a15 : Nat) (a16 : Nat) (a17 : Nat) (a18 : Nat) (a19 : Nat) (a20 : Nat) (a21 : Nat) (a22 : Nat) (a23 : Nat) (a31 : Nat) (p0 : Int32) (p1 : Int32) : Met l yX5_slot (pl_h yX5_slot cX5_slot 3 (some .int)) ({ frames := 3, cells := 0, slots := 0, locals := 64 }) (va_Pc [.ref h0, .int p0, .int p1] (pn_M D (pn_Y cI cZ cJ cG) [(h0, .inr (5, [.int 0, .int 0, .ref a2, .ref a3, .ref a4, .ref a5, .ref a6, .ref a7, .ref a8, .ref a9, .ref a10, .ref a11, .ref a12, .ref a13, .ref a14, .ref a15, .ref a16, .ref a17, .ref a18, .ref a19, .ref a20, .ref a21, .ref a22, .ref a23, .int 0, .int 0, .int 0, .int 0, .int 0, .int 0, .int 0, .ref a31]))] sz)) (va_Qi (fun (r : Int32) (u : Int32 × List Value) => (r = 0 ∧ u.1 = 1 ∧ True)) (fun u tz_ => va_P D vwCl [(h0, .inr (5, (.int u.1 :: u.2)))] tz_.heap ∧ va_D (va_A [(h0, .inr (5, [.int 0, .int 0, .ref a2, .ref a3, .ref a4, .ref a5, .ref a6, .ref a7, .ref a8, .ref a9, .ref a10, .ref a11, .ref a12, .ref a13, .ref a14, .ref a15, .ref a16, .ref a17, .ref a18, .ref a19, .ref a20, .ref a21, .ref a22, .ref a23, .int 0, .int 0, .int 0, .int 0, .int 0, .int 0, .int 0, .ref a31]))] sz) [(h0, .inr (5, (.int u.1 :: u.2)))]) (va_A [(h0, .inr (5, [.int 0, .int 0, .ref a2, .ref a3, .ref a4, .ref a5, .ref a6, .ref a7, .ref a8, .ref a9, .ref a10, .ref a11, .ref a12, .ref a13, .ref a14, .ref a15, .ref a16, .ref a17, .ref a18, .ref a19, .ref a20, .ref a21, .ref a22, .ref a23, .int 0, .int 0, .int 0, .int 0, .int 0, .int 0, .int 0, .ref a31]))] sz)) 0 0 (va_A [(h0, .inr (5, [.int 0, .int 0, .ref a2, .ref a3, .ref a4, .ref a5, .ref a6, .ref a7, .ref a8, .ref a9, .ref a10, .ref a11, .ref a12, .ref a13, .ref a14, .ref a15, .ref a16, .ref a17, .ref a18, .ref a19, .ref a20, .ref a21, .ref a22, .ref a23, .int 0, .int 0, .int 0, .int 0, .int 0, .int 0, .int 0, .ref a31]))] sz) := by
  refine Met.ofW (cc := cX5_slot) (maxL := 3) (ret := (some .int)) (by decide) rfl ?_
  intro p e s m args below meth c s₁ B hml hv
  obtain ⟨rfl, hsz, hP, hK, hD0⟩ := hv
  have hx := B.exec
  have hb := B.bytes
  have hr := B.returns
  have hts0 := atoms_spec (ws := pl_h yX5_slot cX5_slot 3 (some .int)) B.pre
  have hts := fun (w : Cond) (h : w ∈ pw_all) => hts0 w (List.mem_cons_of_mem _ h)
  have hown : s.vm.findClass RX5 = some m.cls := findClass_of_methodNamed B.named
  have hlocks := B.notSynchronized
  subst hsz
  have hD := hD0.self (sz := s.heap.size)
  generalize hAe : va_A [(h0, .inr (5, [.int 0, .int 0, .ref a2, .ref a3, .ref a4, .ref a5, .ref a6, .ref a7, .ref a8, .ref a9, .ref a10, .ref a11, .ref a12, .ref a13, .ref a14, .ref a15, .ref a16, .ref a17, .ref a18, .ref a19, .ref a20, .ref a21, .ref a22, .ref a23, .int 0, .int 0, .int 0, .int 0, .int 0, .int 0, .int 0, .ref a31]))] s.heap.size = A at hD ⊢
  have hA : ∀ q : Nat, s.heap.size ≤ q → A q := fun q h => by rw [← hAe]; exact Or.inr h
  have hS : va_S A s.heap s.heap [] := va_S.rf
  have hl := lv_entry ([.ref h0, .int p0, .int p1]) (n := 3) (Nat.le_of_ble_eq_true rfl)
  rw [lg_entry_eq]
  generalize (lg_sl ([.ref h0, .int p0, .int p1]) ++ List.replicate (3 - (lg_sl ([.ref h0, .int p0, .int p1])).length) Slot.unset).toArray = ls at hl ⊢
  have hl : lv_has ls 3 [(0, .ref h0), (1, .int p0), (2, .int p1)] := hl
  refine lv_aload_n hx hb dX5_slot_0 rfl (lv_at hl 0 rfl) ?_
  refine lv_iconst (v := 0) hx hb dX5_slot_1 (by decide) ?_
  refine va_put (D := D) (ci := 5) (v := .int 0) (ty := .int) (C := RX5) (T := TX5) (N := 32) hx hb hts inlX5 tyX5 tyX5_ok nmX5 hown hK hP hD hS 0 rfl rfl 0 (by decide) (hts (.fieldLink RX5 80 "VtableTownModel" "thrown" "I") (pl_m 137 (by decide +kernel))) (fun _ h9 => h9) rfl (by decide +kernel) rfl rfl (Nat.le_of_ble_eq_true rfl) dX5_slot_2 (fun H locs hP hD hS => ?_)
  have hP : va_P D vwCl [(h0, .inr (5, [.int 0, .int 0, .ref a2, .ref a3, .ref a4, .ref a5, .ref a6, .ref a7, .ref a8, .ref a9, .ref a10, .ref a11, .ref a12, .ref a13, .ref a14, .ref a15, .ref a16, .ref a17, .ref a18, .ref a19, .ref a20, .ref a21, .ref a22, .ref a23, .int 0, .int 0, .int 0, .int 0, .int 0, .int 0, .int 0, .ref a31]))] H := hP
  have hD : va_D (A) [(h0, .inr (5, [.int 0, .int 0, .ref a2, .ref a3, .ref a4, .ref a5, .ref a6, .ref a7, .ref a8, .ref a9, .ref a10, .ref a11, .ref a12, .ref a13, .ref a14, .ref a15, .ref a16, .ref a17, .ref a18, .ref a19, .ref a20, .ref a21, .ref a22, .ref a23, .int 0, .int 0, .int 0, .int 0, .int 0, .int 0, .int 0, .ref a31]))] := hD
  refine lv_aload_n hx hb dX5_slot_5 rfl (lv_at hl 0 rfl) ?_
  refine lv_iload_n hx hb dX5_slot_6 rfl (lv_at hl 1 rfl) ?_
  have hPc := hP.sub (ws' := [(h0, .inr (5, [.int 0, .int 0, .ref a2, .ref a3, .ref a4, .ref a5, .ref a6, .ref a7, .ref a8, .ref a9, .ref a10, .ref a11, .ref a12, .ref a13, .ref a14, .ref a15, .ref a16, .ref a17, .ref a18, .ref a19, .ref a20, .ref a21, .ref a22, .ref a23, .int 0, .int 0, .int 0, .int 0, .int 0, .int 0, .int 0, .ref a31]))]) [0] rfl
  refine pn_ci (va_runV (As := [.int p0]) (rest := []) ⟨hx, hb, hml, hown, hts⟩ (c_X5_isReal l D cI cZ cJ cG H.size h0 0 ([.ref a2, .ref a3, .ref a4, .ref a5, .ref a6, .ref a7, .ref a8, .ref a9, .ref a10, .ref a11, .ref a12, .ref a13, .ref a14, .ref a15, .ref a16, .ref a17, .ref a18, .ref a19, .ref a20, .ref a21, .ref a22, .ref a23, .int 0, .int 0, .int 0, .int 0, .int 0, .int 0, .int 0, .ref a31]) p0) (cwV 1 hts (pl_V (pl_m 668 (by decide +kernel)) (pl_m 669 (by decide +kernel)) (pl_m 670 (by decide +kernel)) (pl_m 5 (by decide +kernel)) (pl_m 671 (by decide +kernel))) rfl rfl rfl (by decide +kernel) ⟨(Nat.le_of_ble_eq_true rfl), (Nat.le_of_ble_eq_true rfl)⟩) ⟨pn_B_blind, va_recv hK hPc (ci := 5) (q0 := 0) rfl rfl, (pn_B_at hPc hK)⟩ rfl rfl hl.1 rfl (lv_room (Nat.le_of_ble_eq_true rfl)) dX5_slot_7 ⟨(Nat.le_of_ble_eq_true rfl), (Nat.le_of_ble_eq_true rfl)⟩) hS hA hP (fun r_1 H locs hw hP hS => ?_)
  have hP : va_P D vwCl [(h0, .inr (5, [.int 0, .int 0, .ref a2, .ref a3, .ref a4, .ref a5, .ref a6, .ref a7, .ref a8, .ref a9, .ref a10, .ref a11, .ref a12, .ref a13, .ref a14, .ref a15, .ref a16, .ref a17, .ref a18, .ref a19, .ref a20, .ref a21, .ref a22, .ref a23, .int 0, .int 0, .int 0, .int 0, .int 0, .int 0, .int 0, .ref a31]))] H := hP
  obtain ⟨rfl, hw⟩ := hw
  try simp only [Int32.reduceToInt] at hw
  refine lv_if_eq (tgt := 32) hx hb dX5_slot_10 (by decide) (fun _ => ?_) (fun h9 => absurd (by decide) h9)
  refine lv_aload_n hx hb dX5_slot_32 rfl (lv_at hl 0 rfl) ?_
  refine lv_iconst (v := 1) hx hb dX5_slot_33 (by decide) ?_
  have hPc := hP.sub (ws' := [(h0, .inr (5, [.int 0, .int 0, .ref a2, .ref a3, .ref a4, .ref a5, .ref a6, .ref a7, .ref a8, .ref a9, .ref a10, .ref a11, .ref a12, .ref a13, .ref a14, .ref a15, .ref a16, .ref a17, .ref a18, .ref a19, .ref a20, .ref a21, .ref a22, .ref a23, .int 0, .int 0, .int 0, .int 0, .int 0, .int 0, .int 0, .ref a31]))]) [0] rfl
  have hDc := hD.sub (ws' := [(h0, .inr (5, [.int 0, .int 0, .ref a2, .ref a3, .ref a4, .ref a5, .ref a6, .ref a7, .ref a8, .ref a9, .ref a10, .ref a11, .ref a12, .ref a13, .ref a14, .ref a15, .ref a16, .ref a17, .ref a18, .ref a19, .ref a20, .ref a21, .ref a22, .ref a23, .int 0, .int 0, .int 0, .int 0, .int 0, .int 0, .int 0, .ref a31]))]) [0] (by decide) rfl
  refine pn_mi (w1 := fun (u : Unit) => [(h0, .inr (5, [.int 1, .int 0, .ref a2, .ref a3, .ref a4, .ref a5, .ref a6, .ref a7, .ref a8, .ref a9, .ref a10, .ref a11, .ref a12, .ref a13, .ref a14, .ref a15, .ref a16, .ref a17, .ref a18, .ref a19, .ref a20, .ref a21, .ref a22, .ref a23, .int 0, .int 0, .int 0, .int 0, .int 0, .int 0, .int 0, .ref a31]))]) (wr := []) (wc := [(h0, .inr (5, [.int 0, .int 0, .ref a2, .ref a3, .ref a4, .ref a5, .ref a6, .ref a7, .ref a8, .ref a9, .ref a10, .ref a11, .ref a12, .ref a13, .ref a14, .ref a15, .ref a16, .ref a17, .ref a18, .ref a19, .ref a20, .ref a21, .ref a22, .ref a23, .int 0, .int 0, .int 0, .int 0, .int 0, .int 0, .int 0, .ref a31]))]) [0] [] (va_runV (As := [.int 1]) (rest := []) ⟨hx, hb, hml, hown, hts⟩ (c_X5_no l D cI cZ cJ cG H.size h0 a2 a3 a4 a5 a6 a7 a8 a9 a10 a11 a12 a13 a14 a15 a16 a17 a18 a19 a20 a21 a22 a23 a31 0 1) (cwV 1 hts (pl_V (pl_m 142 (by decide +kernel)) (pl_m 143 (by decide +kernel)) (pl_m 144 (by decide +kernel)) (pl_m 5 (by decide +kernel)) (pl_m 145 (by decide +kernel))) rfl rfl rfl (by decide +kernel) ⟨(Nat.le_of_ble_eq_true rfl), (Nat.le_of_ble_eq_true rfl)⟩) ⟨pn_M_blind, va_recv hK hPc (ci := 5) (q0 := 0) rfl rfl, (pn_M_at hPc hDc hK)⟩ rfl rfl hl.1 rfl (lv_room (Nat.le_of_ble_eq_true rfl)) dX5_slot_34 ⟨(Nat.le_of_ble_eq_true rfl), (Nat.le_of_ble_eq_true rfl)⟩) hS hA hP hD rfl rfl (by decide) (by decide) (fun r_2 u_2 H locs hw hP hD hS => ?_)
  have hP : va_P D vwCl [(h0, .inr (5, [.int 1, .int 0, .ref a2, .ref a3, .ref a4, .ref a5, .ref a6, .ref a7, .ref a8, .ref a9, .ref a10, .ref a11, .ref a12, .ref a13, .ref a14, .ref a15, .ref a16, .ref a17, .ref a18, .ref a19, .ref a20, .ref a21, .ref a22, .ref a23, .int 0, .int 0, .int 0, .int 0, .int 0, .int 0, .int 0, .ref a31]))] H := hP
  have hD : va_D (A) [(h0, .inr (5, [.int 1, .int 0, .ref a2, .ref a3, .ref a4, .ref a5, .ref a6, .ref a7, .ref a8, .ref a9, .ref a10, .ref a11, .ref a12, .ref a13, .ref a14, .ref a15, .ref a16, .ref a17, .ref a18, .ref a19, .ref a20, .ref a21, .ref a22, .ref a23, .int 0, .int 0, .int 0, .int 0, .int 0, .int 0, .int 0, .ref a31]))] := hD
  obtain ⟨rfl, hw⟩ := hw
  try simp only [Int32.reduceToInt] at hw
  have hP9 := hP.sub (ws' := [(h0, .inr (5, [.int 1, .int 0, .ref a2, .ref a3, .ref a4, .ref a5, .ref a6, .ref a7, .ref a8, .ref a9, .ref a10, .ref a11, .ref a12, .ref a13, .ref a14, .ref a15, .ref a16, .ref a17, .ref a18, .ref a19, .ref a20, .ref a21, .ref a22, .ref a23, .int 0, .int 0, .int 0, .int 0, .int 0, .int 0, .int 0, .ref a31]))]) [0] rfl
  have hD9 := hD.sub (ws' := [(h0, .inr (5, [.int 1, .int 0, .ref a2, .ref a3, .ref a4, .ref a5, .ref a6, .ref a7, .ref a8, .ref a9, .ref a10, .ref a11, .ref a12, .ref a13, .ref a14, .ref a15, .ref a16, .ref a17, .ref a18, .ref a19, .ref a20, .ref a21, .ref a22, .ref a23, .int 0, .int 0, .int 0, .int 0, .int 0, .int 0, .int 0, .ref a31]))]) [0] (by decide) rfl
  exact W.iret (v := 0) hx hb hr (fun tz_ ht hW => ⟨⟨0, (1, [.int 0, .ref a2, .ref a3, .ref a4, .ref a5, .ref a6, .ref a7, .ref a8, .ref a9, .ref a10, .ref a11, .ref a12, .ref a13, .ref a14, .ref a15, .ref a16, .ref a17, .ref a18, .ref a19, .ref a20, .ref a21, .ref a22, .ref a23, .int 0, .int 0, .int 0, .int 0, .int 0, .int 0, .int 0, .ref a31]), rfl, ⟨rfl, rfl, (by first | exact trivial | omega | (simp only [Int32.reduceToInt] at *; omega) | decide)⟩, (by rw [ht]; exact hP9), hD9⟩, hS.F ht⟩) hS.2.2 dX5_slot_37
set_option maxHeartbeats 4000000 in
set_option maxRecDepth 100000 in
theorem c_X5_ofPlace (l : Launch) (D : va_G) (cI cZ cJ cG : ClassId) (sz : Nat) (h0 : Nat) (a2 : Nat) (a3 : Nat) (a4 : Nat) (a5 : Nat) (a6 : Nat) (a7 : Nat) (a8 : Nat) (a9 : Nat) (a10 : Nat) (a11 : Nat) (a12 : Nat) (a13 : Nat) (a14 : Nat) (a15 : Nat) (a16 : Nat) (a17 : Nat) (a18 : Nat) (a19 : Nat) (a20 : Nat) (a21 : Nat) (a22 : Nat) (a23 : Nat) (a31 : Nat) (p0 : Int32) (p1 : Int32) (p2 : Int32) (p3 : Int32) : Met l yX5_ofPlace (pl_h yX5_ofPlace cX5_ofPlace 5 (some .int)) ({ frames := 2, cells := 0, slots := 0, locals := 43 }) (va_Pc [.ref h0, .int p0, .int p1, .int p2, .int p3] (pn_M D (pn_Y cI cZ cJ cG) [(h0, .inr (5, [.int 0, .int 0, .ref a2, .ref a3, .ref a4, .ref a5, .ref a6, .ref a7, .ref a8, .ref a9, .ref a10, .ref a11, .ref a12, .ref a13, .ref a14, .ref a15, .ref a16, .ref a17, .ref a18, .ref a19, .ref a20, .ref a21, .ref a22, .ref a23, .int 0, .int 0, .int 0, .int 0, .int 0, .int 0, .int 0, .ref a31]))] sz)) (va_Qi (fun (r : Int32) (u : Int32 × List Value) => (r = 0 ∧ u.1 = 1 ∧ True)) (fun u tz_ => va_P D vwCl [(h0, .inr (5, (.int u.1 :: u.2)))] tz_.heap ∧ va_D (va_A [(h0, .inr (5, [.int 0, .int 0, .ref a2, .ref a3, .ref a4, .ref a5, .ref a6, .ref a7, .ref a8, .ref a9, .ref a10, .ref a11, .ref a12, .ref a13, .ref a14, .ref a15, .ref a16, .ref a17, .ref a18, .ref a19, .ref a20, .ref a21, .ref a22, .ref a23, .int 0, .int 0, .int 0, .int 0, .int 0, .int 0, .int 0, .ref a31]))] sz) [(h0, .inr (5, (.int u.1 :: u.2)))]) (va_A [(h0, .inr (5, [.int 0, .int 0, .ref a2, .ref a3, .ref a4, .ref a5, .ref a6, .ref a7, .ref a8, .ref a9, .ref a10, .ref a11, .ref a12, .ref a13, .ref a14, .ref a15, .ref a16, .ref a17, .ref a18, .ref a19, .ref a20, .ref a21, .ref a22, .ref a23, .int 0, .int 0, .int 0, .int 0, .int 0, .int 0, .int 0, .ref a31]))] sz)) 0 0 (va_A [(h0, .inr (5, [.int 0, .int 0, .ref a2, .ref a3, .ref a4, .ref a5, .ref a6, .ref a7, .ref a8, .ref a9, .ref a10, .ref a11, .ref a12, .ref a13, .ref a14, .ref a15, .ref a16, .ref a17, .ref a18, .ref a19, .ref a20, .ref a21, .ref a22, .ref a23, .int 0, .int 0, .int 0, .int 0, .int 0, .int 0, .int 0, .ref a31]))] sz) := by
  refine Met.ofW (cc := cX5_ofPlace) (maxL := 5) (ret := (some .int)) (by decide) rfl ?_
  intro p e s m args below meth c s₁ B hml hv
  obtain ⟨rfl, hsz, hP, hK, hD0⟩ := hv
  have hx := B.exec
  have hb := B.bytes
  have hr := B.returns
  have hts0 := atoms_spec (ws := pl_h yX5_ofPlace cX5_ofPlace 5 (some .int)) B.pre
  have hts := fun (w : Cond) (h : w ∈ pw_all) => hts0 w (List.mem_cons_of_mem _ h)
  have hown : s.vm.findClass RX5 = some m.cls := findClass_of_methodNamed B.named
  have hlocks := B.notSynchronized
  subst hsz
  have hD := hD0.self (sz := s.heap.size)
  generalize hAe : va_A [(h0, .inr (5, [.int 0, .int 0, .ref a2, .ref a3, .ref a4, .ref a5, .ref a6, .ref a7, .ref a8, .ref a9, .ref a10, .ref a11, .ref a12, .ref a13, .ref a14, .ref a15, .ref a16, .ref a17, .ref a18, .ref a19, .ref a20, .ref a21, .ref a22, .ref a23, .int 0, .int 0, .int 0, .int 0, .int 0, .int 0, .int 0, .ref a31]))] s.heap.size = A at hD ⊢
  have hA : ∀ q : Nat, s.heap.size ≤ q → A q := fun q h => by rw [← hAe]; exact Or.inr h
  have hS : va_S A s.heap s.heap [] := va_S.rf
  have hl := lv_entry ([.ref h0, .int p0, .int p1, .int p2, .int p3]) (n := 5) (Nat.le_of_ble_eq_true rfl)
  rw [lg_entry_eq]
  generalize (lg_sl ([.ref h0, .int p0, .int p1, .int p2, .int p3]) ++ List.replicate (5 - (lg_sl ([.ref h0, .int p0, .int p1, .int p2, .int p3])).length) Slot.unset).toArray = ls at hl ⊢
  have hl : lv_has ls 5 [(0, .ref h0), (1, .int p0), (2, .int p1), (3, .int p2), (4, .int p3)] := hl
  refine lv_aload_n hx hb dX5_ofPlace_0 rfl (lv_at hl 0 rfl) ?_
  refine lv_iconst (v := 0) hx hb dX5_ofPlace_1 (by decide) ?_
  refine va_put (D := D) (ci := 5) (v := .int 0) (ty := .int) (C := RX5) (T := TX5) (N := 32) hx hb hts inlX5 tyX5 tyX5_ok nmX5 hown hK hP hD hS 0 rfl rfl 0 (by decide) (hts (.fieldLink RX5 80 "VtableTownModel" "thrown" "I") (pl_m 137 (by decide +kernel))) (fun _ h9 => h9) rfl (by decide +kernel) rfl rfl (Nat.le_of_ble_eq_true rfl) dX5_ofPlace_2 (fun H locs hP hD hS => ?_)
  have hP : va_P D vwCl [(h0, .inr (5, [.int 0, .int 0, .ref a2, .ref a3, .ref a4, .ref a5, .ref a6, .ref a7, .ref a8, .ref a9, .ref a10, .ref a11, .ref a12, .ref a13, .ref a14, .ref a15, .ref a16, .ref a17, .ref a18, .ref a19, .ref a20, .ref a21, .ref a22, .ref a23, .int 0, .int 0, .int 0, .int 0, .int 0, .int 0, .int 0, .ref a31]))] H := hP
  have hD : va_D (A) [(h0, .inr (5, [.int 0, .int 0, .ref a2, .ref a3, .ref a4, .ref a5, .ref a6, .ref a7, .ref a8, .ref a9, .ref a10, .ref a11, .ref a12, .ref a13, .ref a14, .ref a15, .ref a16, .ref a17, .ref a18, .ref a19, .ref a20, .ref a21, .ref a22, .ref a23, .int 0, .int 0, .int 0, .int 0, .int 0, .int 0, .int 0, .ref a31]))] := hD
  refine lv_aload_n hx hb dX5_ofPlace_5 rfl (lv_at hl 0 rfl) ?_
  refine lv_iload_n hx hb dX5_ofPlace_6 rfl (lv_at hl 1 rfl) ?_
  have hPc := hP.sub (ws' := [(h0, .inr (5, [.int 0, .int 0, .ref a2, .ref a3, .ref a4, .ref a5, .ref a6, .ref a7, .ref a8, .ref a9, .ref a10, .ref a11, .ref a12, .ref a13, .ref a14, .ref a15, .ref a16, .ref a17, .ref a18, .ref a19, .ref a20, .ref a21, .ref a22, .ref a23, .int 0, .int 0, .int 0, .int 0, .int 0, .int 0, .int 0, .ref a31]))]) [0] rfl
  refine pn_ci (va_runV (As := [.int p0]) (rest := []) ⟨hx, hb, hml, hown, hts⟩ (c_X5_isTold l D cI cZ cJ cG H.size h0 0 ([.ref a2, .ref a3, .ref a4, .ref a5, .ref a6, .ref a7, .ref a8, .ref a9, .ref a10, .ref a11, .ref a12, .ref a13, .ref a14, .ref a15, .ref a16, .ref a17, .ref a18, .ref a19, .ref a20, .ref a21, .ref a22, .ref a23, .int 0, .int 0, .int 0, .int 0, .int 0, .int 0, .int 0, .ref a31]) p0) (cwV 1 hts (pl_V (pl_m 203 (by decide +kernel)) (pl_m 204 (by decide +kernel)) (pl_m 205 (by decide +kernel)) (pl_m 5 (by decide +kernel)) (pl_m 206 (by decide +kernel))) rfl rfl rfl (by decide +kernel) ⟨(Nat.le_of_ble_eq_true rfl), (Nat.le_of_ble_eq_true rfl)⟩) ⟨pn_B_blind, va_recv hK hPc (ci := 5) (q0 := 0) rfl rfl, (pn_B_at hPc hK)⟩ rfl rfl hl.1 rfl (lv_room (Nat.le_of_ble_eq_true rfl)) dX5_ofPlace_7 ⟨(Nat.le_of_ble_eq_true rfl), (Nat.le_of_ble_eq_true rfl)⟩) hS hA hP (fun r_1 H locs hw hP hS => ?_)
  have hP : va_P D vwCl [(h0, .inr (5, [.int 0, .int 0, .ref a2, .ref a3, .ref a4, .ref a5, .ref a6, .ref a7, .ref a8, .ref a9, .ref a10, .ref a11, .ref a12, .ref a13, .ref a14, .ref a15, .ref a16, .ref a17, .ref a18, .ref a19, .ref a20, .ref a21, .ref a22, .ref a23, .int 0, .int 0, .int 0, .int 0, .int 0, .int 0, .int 0, .ref a31]))] H := hP
  obtain ⟨rfl, hw⟩ := hw
  try simp only [Int32.reduceToInt] at hw
  refine lv_if_eq (tgt := 44) hx hb dX5_ofPlace_10 (by decide) (fun _ => ?_) (fun h9 => absurd (by decide) h9)
  refine lv_aload_n hx hb dX5_ofPlace_44 rfl (lv_at hl 0 rfl) ?_
  refine lv_iconst (v := 1) hx hb dX5_ofPlace_45 (by decide) ?_
  have hPc := hP.sub (ws' := [(h0, .inr (5, [.int 0, .int 0, .ref a2, .ref a3, .ref a4, .ref a5, .ref a6, .ref a7, .ref a8, .ref a9, .ref a10, .ref a11, .ref a12, .ref a13, .ref a14, .ref a15, .ref a16, .ref a17, .ref a18, .ref a19, .ref a20, .ref a21, .ref a22, .ref a23, .int 0, .int 0, .int 0, .int 0, .int 0, .int 0, .int 0, .ref a31]))]) [0] rfl
  have hDc := hD.sub (ws' := [(h0, .inr (5, [.int 0, .int 0, .ref a2, .ref a3, .ref a4, .ref a5, .ref a6, .ref a7, .ref a8, .ref a9, .ref a10, .ref a11, .ref a12, .ref a13, .ref a14, .ref a15, .ref a16, .ref a17, .ref a18, .ref a19, .ref a20, .ref a21, .ref a22, .ref a23, .int 0, .int 0, .int 0, .int 0, .int 0, .int 0, .int 0, .ref a31]))]) [0] (by decide) rfl
  refine pn_mi (w1 := fun (u : Unit) => [(h0, .inr (5, [.int 1, .int 0, .ref a2, .ref a3, .ref a4, .ref a5, .ref a6, .ref a7, .ref a8, .ref a9, .ref a10, .ref a11, .ref a12, .ref a13, .ref a14, .ref a15, .ref a16, .ref a17, .ref a18, .ref a19, .ref a20, .ref a21, .ref a22, .ref a23, .int 0, .int 0, .int 0, .int 0, .int 0, .int 0, .int 0, .ref a31]))]) (wr := []) (wc := [(h0, .inr (5, [.int 0, .int 0, .ref a2, .ref a3, .ref a4, .ref a5, .ref a6, .ref a7, .ref a8, .ref a9, .ref a10, .ref a11, .ref a12, .ref a13, .ref a14, .ref a15, .ref a16, .ref a17, .ref a18, .ref a19, .ref a20, .ref a21, .ref a22, .ref a23, .int 0, .int 0, .int 0, .int 0, .int 0, .int 0, .int 0, .ref a31]))]) [0] [] (va_runV (As := [.int 1]) (rest := []) ⟨hx, hb, hml, hown, hts⟩ (c_X5_no l D cI cZ cJ cG H.size h0 a2 a3 a4 a5 a6 a7 a8 a9 a10 a11 a12 a13 a14 a15 a16 a17 a18 a19 a20 a21 a22 a23 a31 0 1) (cwV 1 hts (pl_V (pl_m 142 (by decide +kernel)) (pl_m 143 (by decide +kernel)) (pl_m 144 (by decide +kernel)) (pl_m 5 (by decide +kernel)) (pl_m 145 (by decide +kernel))) rfl rfl rfl (by decide +kernel) ⟨(Nat.le_of_ble_eq_true rfl), (Nat.le_of_ble_eq_true rfl)⟩) ⟨pn_M_blind, va_recv hK hPc (ci := 5) (q0 := 0) rfl rfl, (pn_M_at hPc hDc hK)⟩ rfl rfl hl.1 rfl (lv_room (Nat.le_of_ble_eq_true rfl)) dX5_ofPlace_46 ⟨(Nat.le_of_ble_eq_true rfl), (Nat.le_of_ble_eq_true rfl)⟩) hS hA hP hD rfl rfl (by decide) (by decide) (fun r_2 u_2 H locs hw hP hD hS => ?_)
  have hP : va_P D vwCl [(h0, .inr (5, [.int 1, .int 0, .ref a2, .ref a3, .ref a4, .ref a5, .ref a6, .ref a7, .ref a8, .ref a9, .ref a10, .ref a11, .ref a12, .ref a13, .ref a14, .ref a15, .ref a16, .ref a17, .ref a18, .ref a19, .ref a20, .ref a21, .ref a22, .ref a23, .int 0, .int 0, .int 0, .int 0, .int 0, .int 0, .int 0, .ref a31]))] H := hP
  have hD : va_D (A) [(h0, .inr (5, [.int 1, .int 0, .ref a2, .ref a3, .ref a4, .ref a5, .ref a6, .ref a7, .ref a8, .ref a9, .ref a10, .ref a11, .ref a12, .ref a13, .ref a14, .ref a15, .ref a16, .ref a17, .ref a18, .ref a19, .ref a20, .ref a21, .ref a22, .ref a23, .int 0, .int 0, .int 0, .int 0, .int 0, .int 0, .int 0, .ref a31]))] := hD
  obtain ⟨rfl, hw⟩ := hw
  try simp only [Int32.reduceToInt] at hw
  have hP9 := hP.sub (ws' := [(h0, .inr (5, [.int 1, .int 0, .ref a2, .ref a3, .ref a4, .ref a5, .ref a6, .ref a7, .ref a8, .ref a9, .ref a10, .ref a11, .ref a12, .ref a13, .ref a14, .ref a15, .ref a16, .ref a17, .ref a18, .ref a19, .ref a20, .ref a21, .ref a22, .ref a23, .int 0, .int 0, .int 0, .int 0, .int 0, .int 0, .int 0, .ref a31]))]) [0] rfl
  have hD9 := hD.sub (ws' := [(h0, .inr (5, [.int 1, .int 0, .ref a2, .ref a3, .ref a4, .ref a5, .ref a6, .ref a7, .ref a8, .ref a9, .ref a10, .ref a11, .ref a12, .ref a13, .ref a14, .ref a15, .ref a16, .ref a17, .ref a18, .ref a19, .ref a20, .ref a21, .ref a22, .ref a23, .int 0, .int 0, .int 0, .int 0, .int 0, .int 0, .int 0, .ref a31]))]) [0] (by decide) rfl
  exact W.iret (v := 0) hx hb hr (fun tz_ ht hW => ⟨⟨0, (1, [.int 0, .ref a2, .ref a3, .ref a4, .ref a5, .ref a6, .ref a7, .ref a8, .ref a9, .ref a10, .ref a11, .ref a12, .ref a13, .ref a14, .ref a15, .ref a16, .ref a17, .ref a18, .ref a19, .ref a20, .ref a21, .ref a22, .ref a23, .int 0, .int 0, .int 0, .int 0, .int 0, .int 0, .int 0, .ref a31]), rfl, ⟨rfl, rfl, (by first | exact trivial | omega | (simp only [Int32.reduceToInt] at *; omega) | decide)⟩, (by rw [ht]; exact hP9), hD9⟩, hS.F ht⟩) hS.2.2 dX5_ofPlace_49
set_option maxHeartbeats 4000000 in
set_option maxRecDepth 100000 in
theorem c_X5_load_ (l : Launch) (D : va_G) (cI cZ cJ cG : ClassId) (sz : Nat) (h0 : Nat) (a2 : Nat) (a3 : Nat) (a4 : Nat) (a5 : Nat) (a6 : Nat) (a7 : Nat) (a8 : Nat) (a9 : Nat) (a10 : Nat) (a11 : Nat) (a12 : Nat) (a13 : Nat) (a14 : Nat) (a15 : Nat) (a16 : Nat) (a17 : Nat) (a18 : Nat) (a19 : Nat) (a20 : Nat) (a21 : Nat) (a22 : Nat) (a23 : Nat) (a31 : Nat) (p0 : Int32) : Met l yX5_load_ (pl_h yX5_load_ cX5_load_ 4 (some .int)) ({ frames := 3, cells := 0, slots := 0, locals := 66 }) (va_Pc [.ref h0, .int p0] (pn_M D (pn_Y cI cZ cJ cG) [(h0, .inr (5, [.int 0, .int 0, .ref a2, .ref a3, .ref a4, .ref a5, .ref a6, .ref a7, .ref a8, .ref a9, .ref a10, .ref a11, .ref a12, .ref a13, .ref a14, .ref a15, .ref a16, .ref a17, .ref a18, .ref a19, .ref a20, .ref a21, .ref a22, .ref a23, .int 0, .int 0, .int 0, .int 0, .int 0, .int 0, .int 0, .ref a31]))] sz)) (va_Qi (fun (r : Int32) (u : Int32 × List Value) => (r = 1 ∧ u.1 = 0 ∧ (0 ≤ p0.toInt ∧ p0.toInt ≤ 11)) ∨ (r = 0 ∧ u.1 = 1 ∧ (p0.toInt < 0 ∨ 11 < p0.toInt))) (fun u tz_ => va_P D vwCl [(h0, .inr (5, (.int u.1 :: u.2)))] tz_.heap ∧ va_D (va_A [(h0, .inr (5, [.int 0, .int 0, .ref a2, .ref a3, .ref a4, .ref a5, .ref a6, .ref a7, .ref a8, .ref a9, .ref a10, .ref a11, .ref a12, .ref a13, .ref a14, .ref a15, .ref a16, .ref a17, .ref a18, .ref a19, .ref a20, .ref a21, .ref a22, .ref a23, .int 0, .int 0, .int 0, .int 0, .int 0, .int 0, .int 0, .ref a31]))] sz) [(h0, .inr (5, (.int u.1 :: u.2)))]) (va_A [(h0, .inr (5, [.int 0, .int 0, .ref a2, .ref a3, .ref a4, .ref a5, .ref a6, .ref a7, .ref a8, .ref a9, .ref a10, .ref a11, .ref a12, .ref a13, .ref a14, .ref a15, .ref a16, .ref a17, .ref a18, .ref a19, .ref a20, .ref a21, .ref a22, .ref a23, .int 0, .int 0, .int 0, .int 0, .int 0, .int 0, .int 0, .ref a31]))] sz)) 0 0 (va_A [(h0, .inr (5, [.int 0, .int 0, .ref a2, .ref a3, .ref a4, .ref a5, .ref a6, .ref a7, .ref a8, .ref a9, .ref a10, .ref a11, .ref a12, .ref a13, .ref a14, .ref a15, .ref a16, .ref a17, .ref a18, .ref a19, .ref a20, .ref a21, .ref a22, .ref a23, .int 0, .int 0, .int 0, .int 0, .int 0, .int 0, .int 0, .ref a31]))] sz) := by
  refine Met.ofW (cc := cX5_load_) (maxL := 4) (ret := (some .int)) (by decide) rfl ?_
  intro p e s m args below meth c s₁ B hml hv
  obtain ⟨rfl, hsz, hP, hK, hD0⟩ := hv
  have hx := B.exec
  have hb := B.bytes
  have hr := B.returns
  have hts0 := atoms_spec (ws := pl_h yX5_load_ cX5_load_ 4 (some .int)) B.pre
  have hts := fun (w : Cond) (h : w ∈ pw_all) => hts0 w (List.mem_cons_of_mem _ h)
  have hown : s.vm.findClass RX5 = some m.cls := findClass_of_methodNamed B.named
  have hlocks := B.notSynchronized
  subst hsz
  have hD := hD0.self (sz := s.heap.size)
  generalize hAe : va_A [(h0, .inr (5, [.int 0, .int 0, .ref a2, .ref a3, .ref a4, .ref a5, .ref a6, .ref a7, .ref a8, .ref a9, .ref a10, .ref a11, .ref a12, .ref a13, .ref a14, .ref a15, .ref a16, .ref a17, .ref a18, .ref a19, .ref a20, .ref a21, .ref a22, .ref a23, .int 0, .int 0, .int 0, .int 0, .int 0, .int 0, .int 0, .ref a31]))] s.heap.size = A at hD ⊢
  have hA : ∀ q : Nat, s.heap.size ≤ q → A q := fun q h => by rw [← hAe]; exact Or.inr h
  have hS : va_S A s.heap s.heap [] := va_S.rf
  have hl := lv_entry ([.ref h0, .int p0]) (n := 4) (Nat.le_of_ble_eq_true rfl)
  rw [lg_entry_eq]
  generalize (lg_sl ([.ref h0, .int p0]) ++ List.replicate (4 - (lg_sl ([.ref h0, .int p0])).length) Slot.unset).toArray = ls at hl ⊢
  have hl : lv_has ls 4 [(0, .ref h0), (1, .int p0)] := hl
  refine lv_aload_n hx hb dX5_load__0 rfl (lv_at hl 0 rfl) ?_
  refine lv_iconst (v := 0) hx hb dX5_load__1 (by decide) ?_
  refine va_put (D := D) (ci := 5) (v := .int 0) (ty := .int) (C := RX5) (T := TX5) (N := 32) hx hb hts inlX5 tyX5 tyX5_ok nmX5 hown hK hP hD hS 0 rfl rfl 0 (by decide) (hts (.fieldLink RX5 80 "VtableTownModel" "thrown" "I") (pl_m 137 (by decide +kernel))) (fun _ h9 => h9) rfl (by decide +kernel) rfl rfl (Nat.le_of_ble_eq_true rfl) dX5_load__2 (fun H locs hP hD hS => ?_)
  have hP : va_P D vwCl [(h0, .inr (5, [.int 0, .int 0, .ref a2, .ref a3, .ref a4, .ref a5, .ref a6, .ref a7, .ref a8, .ref a9, .ref a10, .ref a11, .ref a12, .ref a13, .ref a14, .ref a15, .ref a16, .ref a17, .ref a18, .ref a19, .ref a20, .ref a21, .ref a22, .ref a23, .int 0, .int 0, .int 0, .int 0, .int 0, .int 0, .int 0, .ref a31]))] H := hP
  have hD : va_D (A) [(h0, .inr (5, [.int 0, .int 0, .ref a2, .ref a3, .ref a4, .ref a5, .ref a6, .ref a7, .ref a8, .ref a9, .ref a10, .ref a11, .ref a12, .ref a13, .ref a14, .ref a15, .ref a16, .ref a17, .ref a18, .ref a19, .ref a20, .ref a21, .ref a22, .ref a23, .int 0, .int 0, .int 0, .int 0, .int 0, .int 0, .int 0, .ref a31]))] := hD
  refine lv_iload_n hx hb dX5_load__5 rfl (lv_at hl 1 rfl) ?_
  have hPc := hP.sub (ws' := []) [] rfl
  refine pn_ci (va_runS (As := [.int p0]) (rest := []) ⟨hx, hb, hml, hown, hts⟩ (c_X5_isAny l D cI cZ cJ cG H.size p0) (va_cwS 1 hts (pl_S (pl_m 262 (by decide +kernel)) (pl_m 263 (by decide +kernel)) (pl_m 5 (by decide +kernel)) (pl_m 264 (by decide +kernel))) rfl rfl rfl (by decide +kernel) ⟨(Nat.le_of_ble_eq_true rfl), (Nat.le_of_ble_eq_true rfl)⟩) ⟨pn_B_blind, (pn_B_at hPc hK)⟩ rfl rfl hl.1 rfl (lv_room (Nat.le_of_ble_eq_true rfl)) dX5_load__6 ⟨(Nat.le_of_ble_eq_true rfl), (Nat.le_of_ble_eq_true rfl)⟩) hS hA hP (fun r_1 H locs hw hP hS => ?_)
  have hP : va_P D vwCl [(h0, .inr (5, [.int 0, .int 0, .ref a2, .ref a3, .ref a4, .ref a5, .ref a6, .ref a7, .ref a8, .ref a9, .ref a10, .ref a11, .ref a12, .ref a13, .ref a14, .ref a15, .ref a16, .ref a17, .ref a18, .ref a19, .ref a20, .ref a21, .ref a22, .ref a23, .int 0, .int 0, .int 0, .int 0, .int 0, .int 0, .int 0, .ref a31]))] H := hP
  rcases hw with ⟨rfl, hw⟩ | ⟨rfl, hw⟩
  · try simp only [Int32.reduceToInt] at hw
    have hw_2 := hw
    refine lv_if_ne (tgt := 18) hx hb dX5_load__9 (by decide) (fun _ => ?_) (fun h9 => absurd h9 (by decide))
    refine lv_aload_n hx hb dX5_load__18 rfl (lv_at hl 0 rfl) ?_
    refine va_get (D := D) (ci := 5) (v := .int 0) (C := RX5) (T := TX5) (N := 32) hx hb hts inlX5 hown hK hP 0 rfl rfl 27 (by decide) (hts (.fieldLink RX5 185 "VtableTownModel" "cost" "I") (pl_m 403 (by decide +kernel))) (fun _ h9 => h9) rfl dX5_load__19 ?_
    refine lv_istore_n (lv' := [(2, .int 0), (0, .ref h0), (1, .int p0)]) hx hb dX5_load__22 rfl hl (by decide) rfl (fun ls hl => ?_)
    refine lv_aload_n hx hb dX5_load__23 rfl (lv_at hl 1 rfl) ?_
    refine lv_iload_n hx hb dX5_load__24 rfl (lv_at hl 2 rfl) ?_
    have hPc := hP.sub (ws' := [(h0, .inr (5, [.int 0, .int 0, .ref a2, .ref a3, .ref a4, .ref a5, .ref a6, .ref a7, .ref a8, .ref a9, .ref a10, .ref a11, .ref a12, .ref a13, .ref a14, .ref a15, .ref a16, .ref a17, .ref a18, .ref a19, .ref a20, .ref a21, .ref a22, .ref a23, .int 0, .int 0, .int 0, .int 0, .int 0, .int 0, .int 0, .ref a31]))]) [0] rfl
    refine pn_ci (va_runV (As := [.int p0]) (rest := []) ⟨hx, hb, hml, hown, hts⟩ (c_X5_loadNow l D cI cZ cJ cG H.size h0 0 ([.ref a2, .ref a3, .ref a4, .ref a5, .ref a6, .ref a7, .ref a8, .ref a9, .ref a10, .ref a11, .ref a12, .ref a13, .ref a14, .ref a15, .ref a16, .ref a17, .ref a18, .ref a19, .ref a20, .ref a21, .ref a22, .ref a23, .int 0, .int 0, .int 0, .int 0, .int 0, .int 0, .int 0, .ref a31]) p0) (cwV 1 hts (pl_V (pl_m 404 (by decide +kernel)) (pl_m 405 (by decide +kernel)) (pl_m 406 (by decide +kernel)) (pl_m 5 (by decide +kernel)) (pl_m 407 (by decide +kernel))) rfl rfl rfl (by decide +kernel) ⟨(Nat.le_of_ble_eq_true rfl), (Nat.le_of_ble_eq_true rfl)⟩) ⟨pn_B_blind, va_recv hK hPc (ci := 5) (q0 := 0) rfl rfl, (pn_B_at hPc hK)⟩ rfl rfl hl.1 rfl (lv_room (Nat.le_of_ble_eq_true rfl)) dX5_load__25 ⟨(Nat.le_of_ble_eq_true rfl), (Nat.le_of_ble_eq_true rfl)⟩) hS hA hP (fun r_3 H locs hw hP hS => ?_)
    have hP : va_P D vwCl [(h0, .inr (5, [.int 0, .int 0, .ref a2, .ref a3, .ref a4, .ref a5, .ref a6, .ref a7, .ref a8, .ref a9, .ref a10, .ref a11, .ref a12, .ref a13, .ref a14, .ref a15, .ref a16, .ref a17, .ref a18, .ref a19, .ref a20, .ref a21, .ref a22, .ref a23, .int 0, .int 0, .int 0, .int 0, .int 0, .int 0, .int 0, .ref a31]))] H := hP
    obtain ⟨rfl, hw⟩ := hw
    try simp only [Int32.reduceToInt] at hw
    refine lv_istore_n (lv' := [(3, .int 1), (2, .int 0), (0, .ref h0), (1, .int p0)]) hx hb dX5_load__28 rfl hl (by decide) rfl (fun ls hl => ?_)
    refine lv_aload_n hx hb dX5_load__29 rfl (lv_at hl 2 rfl) ?_
    refine lv_iload_n hx hb dX5_load__30 rfl (lv_at hl 1 rfl) ?_
    refine va_put (D := D) (ci := 5) (v := .int 0) (ty := .int) (C := RX5) (T := TX5) (N := 32) hx hb hts inlX5 tyX5 tyX5_ok nmX5 hown hK hP hD hS 0 rfl rfl 27 (by decide) (hts (.fieldLink RX5 185 "VtableTownModel" "cost" "I") (pl_m 403 (by decide +kernel))) (fun _ h9 => h9) rfl (by decide +kernel) rfl rfl (Nat.le_of_ble_eq_true rfl) dX5_load__31 (fun H locs hP hD hS => ?_)
    have hP : va_P D vwCl [(h0, .inr (5, [.int 0, .int 0, .ref a2, .ref a3, .ref a4, .ref a5, .ref a6, .ref a7, .ref a8, .ref a9, .ref a10, .ref a11, .ref a12, .ref a13, .ref a14, .ref a15, .ref a16, .ref a17, .ref a18, .ref a19, .ref a20, .ref a21, .ref a22, .ref a23, .int 0, .int 0, .int 0, .int 0, .int 0, .int 0, .int 0, .ref a31]))] H := hP
    have hD : va_D (A) [(h0, .inr (5, [.int 0, .int 0, .ref a2, .ref a3, .ref a4, .ref a5, .ref a6, .ref a7, .ref a8, .ref a9, .ref a10, .ref a11, .ref a12, .ref a13, .ref a14, .ref a15, .ref a16, .ref a17, .ref a18, .ref a19, .ref a20, .ref a21, .ref a22, .ref a23, .int 0, .int 0, .int 0, .int 0, .int 0, .int 0, .int 0, .ref a31]))] := hD
    refine lv_iload_n hx hb dX5_load__34 rfl (lv_at hl 0 rfl) ?_
    have hP9 := hP.sub (ws' := [(h0, .inr (5, [.int 0, .int 0, .ref a2, .ref a3, .ref a4, .ref a5, .ref a6, .ref a7, .ref a8, .ref a9, .ref a10, .ref a11, .ref a12, .ref a13, .ref a14, .ref a15, .ref a16, .ref a17, .ref a18, .ref a19, .ref a20, .ref a21, .ref a22, .ref a23, .int 0, .int 0, .int 0, .int 0, .int 0, .int 0, .int 0, .ref a31]))]) [0] rfl
    have hD9 := hD.sub (ws' := [(h0, .inr (5, [.int 0, .int 0, .ref a2, .ref a3, .ref a4, .ref a5, .ref a6, .ref a7, .ref a8, .ref a9, .ref a10, .ref a11, .ref a12, .ref a13, .ref a14, .ref a15, .ref a16, .ref a17, .ref a18, .ref a19, .ref a20, .ref a21, .ref a22, .ref a23, .int 0, .int 0, .int 0, .int 0, .int 0, .int 0, .int 0, .ref a31]))]) [0] (by decide) rfl
    exact W.iret (v := 1) hx hb hr (fun tz_ ht hW => ⟨⟨1, (0, [.int 0, .ref a2, .ref a3, .ref a4, .ref a5, .ref a6, .ref a7, .ref a8, .ref a9, .ref a10, .ref a11, .ref a12, .ref a13, .ref a14, .ref a15, .ref a16, .ref a17, .ref a18, .ref a19, .ref a20, .ref a21, .ref a22, .ref a23, .int 0, .int 0, .int 0, .int 0, .int 0, .int 0, .int 0, .ref a31]), rfl, (Or.inl ⟨rfl, rfl, (by first | exact trivial | omega | (simp only [Int32.reduceToInt] at *; omega) | decide)⟩), (by rw [ht]; exact hP9), hD9⟩, hS.F ht⟩) hS.2.2 dX5_load__35
  · try simp only [Int32.reduceToInt] at hw
    have hw_4 := hw
    refine lv_if_ne (tgt := 18) hx hb dX5_load__9 (by decide) (fun h9 => absurd (by decide) h9) (fun _ => ?_)
    refine lv_aload_n hx hb dX5_load__12 rfl (lv_at hl 0 rfl) ?_
    refine lv_iconst (v := 1) hx hb dX5_load__13 (by decide) ?_
    have hPc := hP.sub (ws' := [(h0, .inr (5, [.int 0, .int 0, .ref a2, .ref a3, .ref a4, .ref a5, .ref a6, .ref a7, .ref a8, .ref a9, .ref a10, .ref a11, .ref a12, .ref a13, .ref a14, .ref a15, .ref a16, .ref a17, .ref a18, .ref a19, .ref a20, .ref a21, .ref a22, .ref a23, .int 0, .int 0, .int 0, .int 0, .int 0, .int 0, .int 0, .ref a31]))]) [0] rfl
    have hDc := hD.sub (ws' := [(h0, .inr (5, [.int 0, .int 0, .ref a2, .ref a3, .ref a4, .ref a5, .ref a6, .ref a7, .ref a8, .ref a9, .ref a10, .ref a11, .ref a12, .ref a13, .ref a14, .ref a15, .ref a16, .ref a17, .ref a18, .ref a19, .ref a20, .ref a21, .ref a22, .ref a23, .int 0, .int 0, .int 0, .int 0, .int 0, .int 0, .int 0, .ref a31]))]) [0] (by decide) rfl
    refine pn_mi (w1 := fun (u : Unit) => [(h0, .inr (5, [.int 1, .int 0, .ref a2, .ref a3, .ref a4, .ref a5, .ref a6, .ref a7, .ref a8, .ref a9, .ref a10, .ref a11, .ref a12, .ref a13, .ref a14, .ref a15, .ref a16, .ref a17, .ref a18, .ref a19, .ref a20, .ref a21, .ref a22, .ref a23, .int 0, .int 0, .int 0, .int 0, .int 0, .int 0, .int 0, .ref a31]))]) (wr := []) (wc := [(h0, .inr (5, [.int 0, .int 0, .ref a2, .ref a3, .ref a4, .ref a5, .ref a6, .ref a7, .ref a8, .ref a9, .ref a10, .ref a11, .ref a12, .ref a13, .ref a14, .ref a15, .ref a16, .ref a17, .ref a18, .ref a19, .ref a20, .ref a21, .ref a22, .ref a23, .int 0, .int 0, .int 0, .int 0, .int 0, .int 0, .int 0, .ref a31]))]) [0] [] (va_runV (As := [.int 1]) (rest := []) ⟨hx, hb, hml, hown, hts⟩ (c_X5_no l D cI cZ cJ cG H.size h0 a2 a3 a4 a5 a6 a7 a8 a9 a10 a11 a12 a13 a14 a15 a16 a17 a18 a19 a20 a21 a22 a23 a31 0 1) (cwV 1 hts (pl_V (pl_m 142 (by decide +kernel)) (pl_m 143 (by decide +kernel)) (pl_m 144 (by decide +kernel)) (pl_m 5 (by decide +kernel)) (pl_m 145 (by decide +kernel))) rfl rfl rfl (by decide +kernel) ⟨(Nat.le_of_ble_eq_true rfl), (Nat.le_of_ble_eq_true rfl)⟩) ⟨pn_M_blind, va_recv hK hPc (ci := 5) (q0 := 0) rfl rfl, (pn_M_at hPc hDc hK)⟩ rfl rfl hl.1 rfl (lv_room (Nat.le_of_ble_eq_true rfl)) dX5_load__14 ⟨(Nat.le_of_ble_eq_true rfl), (Nat.le_of_ble_eq_true rfl)⟩) hS hA hP hD rfl rfl (by decide) (by decide) (fun r_5 u_5 H locs hw hP hD hS => ?_)
    have hP : va_P D vwCl [(h0, .inr (5, [.int 1, .int 0, .ref a2, .ref a3, .ref a4, .ref a5, .ref a6, .ref a7, .ref a8, .ref a9, .ref a10, .ref a11, .ref a12, .ref a13, .ref a14, .ref a15, .ref a16, .ref a17, .ref a18, .ref a19, .ref a20, .ref a21, .ref a22, .ref a23, .int 0, .int 0, .int 0, .int 0, .int 0, .int 0, .int 0, .ref a31]))] H := hP
    have hD : va_D (A) [(h0, .inr (5, [.int 1, .int 0, .ref a2, .ref a3, .ref a4, .ref a5, .ref a6, .ref a7, .ref a8, .ref a9, .ref a10, .ref a11, .ref a12, .ref a13, .ref a14, .ref a15, .ref a16, .ref a17, .ref a18, .ref a19, .ref a20, .ref a21, .ref a22, .ref a23, .int 0, .int 0, .int 0, .int 0, .int 0, .int 0, .int 0, .ref a31]))] := hD
    obtain ⟨rfl, hw⟩ := hw
    try simp only [Int32.reduceToInt] at hw
    have hP9 := hP.sub (ws' := [(h0, .inr (5, [.int 1, .int 0, .ref a2, .ref a3, .ref a4, .ref a5, .ref a6, .ref a7, .ref a8, .ref a9, .ref a10, .ref a11, .ref a12, .ref a13, .ref a14, .ref a15, .ref a16, .ref a17, .ref a18, .ref a19, .ref a20, .ref a21, .ref a22, .ref a23, .int 0, .int 0, .int 0, .int 0, .int 0, .int 0, .int 0, .ref a31]))]) [0] rfl
    have hD9 := hD.sub (ws' := [(h0, .inr (5, [.int 1, .int 0, .ref a2, .ref a3, .ref a4, .ref a5, .ref a6, .ref a7, .ref a8, .ref a9, .ref a10, .ref a11, .ref a12, .ref a13, .ref a14, .ref a15, .ref a16, .ref a17, .ref a18, .ref a19, .ref a20, .ref a21, .ref a22, .ref a23, .int 0, .int 0, .int 0, .int 0, .int 0, .int 0, .int 0, .ref a31]))]) [0] (by decide) rfl
    exact W.iret (v := 0) hx hb hr (fun tz_ ht hW => ⟨⟨0, (1, [.int 0, .ref a2, .ref a3, .ref a4, .ref a5, .ref a6, .ref a7, .ref a8, .ref a9, .ref a10, .ref a11, .ref a12, .ref a13, .ref a14, .ref a15, .ref a16, .ref a17, .ref a18, .ref a19, .ref a20, .ref a21, .ref a22, .ref a23, .int 0, .int 0, .int 0, .int 0, .int 0, .int 0, .int 0, .ref a31]), rfl, (Or.inr ⟨rfl, rfl, (by first | exact trivial | omega | (simp only [Int32.reduceToInt] at *; omega) | decide)⟩), (by rw [ht]; exact hP9), hD9⟩, hS.F ht⟩) hS.2.2 dX5_load__17
set_option maxHeartbeats 4000000 in
set_option maxRecDepth 100000 in
theorem c_X5_many (l : Launch) (D : va_G) (cI cZ cJ cG : ClassId) (sz : Nat) (h0 : Nat) (a2 : Nat) (a3 : Nat) (a4 : Nat) (a5 : Nat) (a6 : Nat) (a7 : Nat) (a8 : Nat) (a9 : Nat) (a10 : Nat) (a11 : Nat) (a12 : Nat) (a13 : Nat) (a14 : Nat) (a15 : Nat) (a16 : Nat) (a17 : Nat) (a18 : Nat) (a19 : Nat) (a20 : Nat) (a21 : Nat) (a22 : Nat) (a23 : Nat) (a31 : Nat) (p0 : Int32) : Met l yX5_many (pl_h yX5_many cX5_many 2 (some .int)) ({ frames := 3, cells := 0, slots := 0, locals := 69 }) (va_Pc [.ref h0, .int p0] (pn_M D (pn_Y cI cZ cJ cG) [(h0, .inr (5, [.int 0, .int 0, .ref a2, .ref a3, .ref a4, .ref a5, .ref a6, .ref a7, .ref a8, .ref a9, .ref a10, .ref a11, .ref a12, .ref a13, .ref a14, .ref a15, .ref a16, .ref a17, .ref a18, .ref a19, .ref a20, .ref a21, .ref a22, .ref a23, .int 0, .int 0, .int 0, .int 0, .int 0, .int 0, .int 0, .ref a31]))] sz)) (va_Qi (fun (r : Int32) (u : Int32 × List Value) => (r = 0 ∧ u.1 = 0 ∧ (0 ≤ p0.toInt ∧ p0.toInt ≤ 13)) ∨ (r = 0 ∧ u.1 = 1 ∧ (p0.toInt < 0 ∨ 13 < p0.toInt))) (fun u tz_ => va_P D vwCl [(h0, .inr (5, (.int u.1 :: u.2)))] tz_.heap ∧ va_D (va_A [(h0, .inr (5, [.int 0, .int 0, .ref a2, .ref a3, .ref a4, .ref a5, .ref a6, .ref a7, .ref a8, .ref a9, .ref a10, .ref a11, .ref a12, .ref a13, .ref a14, .ref a15, .ref a16, .ref a17, .ref a18, .ref a19, .ref a20, .ref a21, .ref a22, .ref a23, .int 0, .int 0, .int 0, .int 0, .int 0, .int 0, .int 0, .ref a31]))] sz) [(h0, .inr (5, (.int u.1 :: u.2)))]) (va_A [(h0, .inr (5, [.int 0, .int 0, .ref a2, .ref a3, .ref a4, .ref a5, .ref a6, .ref a7, .ref a8, .ref a9, .ref a10, .ref a11, .ref a12, .ref a13, .ref a14, .ref a15, .ref a16, .ref a17, .ref a18, .ref a19, .ref a20, .ref a21, .ref a22, .ref a23, .int 0, .int 0, .int 0, .int 0, .int 0, .int 0, .int 0, .ref a31]))] sz)) 0 0 (va_A [(h0, .inr (5, [.int 0, .int 0, .ref a2, .ref a3, .ref a4, .ref a5, .ref a6, .ref a7, .ref a8, .ref a9, .ref a10, .ref a11, .ref a12, .ref a13, .ref a14, .ref a15, .ref a16, .ref a17, .ref a18, .ref a19, .ref a20, .ref a21, .ref a22, .ref a23, .int 0, .int 0, .int 0, .int 0, .int 0, .int 0, .int 0, .ref a31]))] sz) := by
  refine Met.ofW (cc := cX5_many) (maxL := 2) (ret := (some .int)) (by decide) rfl ?_
  intro p e s m args below meth c s₁ B hml hv
  obtain ⟨rfl, hsz, hP, hK, hD0⟩ := hv
  have hx := B.exec
  have hb := B.bytes
  have hr := B.returns
  have hts0 := atoms_spec (ws := pl_h yX5_many cX5_many 2 (some .int)) B.pre
  have hts := fun (w : Cond) (h : w ∈ pw_all) => hts0 w (List.mem_cons_of_mem _ h)
  have hown : s.vm.findClass RX5 = some m.cls := findClass_of_methodNamed B.named
  have hlocks := B.notSynchronized
  subst hsz
  have hD := hD0.self (sz := s.heap.size)
  generalize hAe : va_A [(h0, .inr (5, [.int 0, .int 0, .ref a2, .ref a3, .ref a4, .ref a5, .ref a6, .ref a7, .ref a8, .ref a9, .ref a10, .ref a11, .ref a12, .ref a13, .ref a14, .ref a15, .ref a16, .ref a17, .ref a18, .ref a19, .ref a20, .ref a21, .ref a22, .ref a23, .int 0, .int 0, .int 0, .int 0, .int 0, .int 0, .int 0, .ref a31]))] s.heap.size = A at hD ⊢
  have hA : ∀ q : Nat, s.heap.size ≤ q → A q := fun q h => by rw [← hAe]; exact Or.inr h
  have hS : va_S A s.heap s.heap [] := va_S.rf
  have hl := lv_entry ([.ref h0, .int p0]) (n := 2) (Nat.le_of_ble_eq_true rfl)
  rw [lg_entry_eq]
  generalize (lg_sl ([.ref h0, .int p0]) ++ List.replicate (2 - (lg_sl ([.ref h0, .int p0])).length) Slot.unset).toArray = ls at hl ⊢
  have hl : lv_has ls 2 [(0, .ref h0), (1, .int p0)] := hl
  refine lv_aload_n hx hb dX5_many_0 rfl (lv_at hl 0 rfl) ?_
  refine lv_iconst (v := 0) hx hb dX5_many_1 (by decide) ?_
  refine va_put (D := D) (ci := 5) (v := .int 0) (ty := .int) (C := RX5) (T := TX5) (N := 32) hx hb hts inlX5 tyX5 tyX5_ok nmX5 hown hK hP hD hS 0 rfl rfl 0 (by decide) (hts (.fieldLink RX5 80 "VtableTownModel" "thrown" "I") (pl_m 137 (by decide +kernel))) (fun _ h9 => h9) rfl (by decide +kernel) rfl rfl (Nat.le_of_ble_eq_true rfl) dX5_many_2 (fun H locs hP hD hS => ?_)
  have hP : va_P D vwCl [(h0, .inr (5, [.int 0, .int 0, .ref a2, .ref a3, .ref a4, .ref a5, .ref a6, .ref a7, .ref a8, .ref a9, .ref a10, .ref a11, .ref a12, .ref a13, .ref a14, .ref a15, .ref a16, .ref a17, .ref a18, .ref a19, .ref a20, .ref a21, .ref a22, .ref a23, .int 0, .int 0, .int 0, .int 0, .int 0, .int 0, .int 0, .ref a31]))] H := hP
  have hD : va_D (A) [(h0, .inr (5, [.int 0, .int 0, .ref a2, .ref a3, .ref a4, .ref a5, .ref a6, .ref a7, .ref a8, .ref a9, .ref a10, .ref a11, .ref a12, .ref a13, .ref a14, .ref a15, .ref a16, .ref a17, .ref a18, .ref a19, .ref a20, .ref a21, .ref a22, .ref a23, .int 0, .int 0, .int 0, .int 0, .int 0, .int 0, .int 0, .ref a31]))] := hD
  refine lv_iload_n hx hb dX5_many_5 rfl (lv_at hl 1 rfl) ?_
  refine lv_iconst (v := 0) hx hb dX5_many_6 (by decide) ?_
  refine lv_bipush (v := 13) hx hb dX5_many_7 (by decide) ?_
  have hPc := hP.sub (ws' := []) [] rfl
  refine pn_ci (va_runS (As := [.int p0, .int 0, .int 13]) (rest := []) ⟨hx, hb, hml, hown, hts⟩ (c_X5_isIn l D cI cZ cJ cG H.size p0 0 13) (va_cwS 3 hts (pl_S (pl_m 139 (by decide +kernel)) (pl_m 140 (by decide +kernel)) (pl_m 5 (by decide +kernel)) (pl_m 141 (by decide +kernel))) rfl rfl rfl (by decide +kernel) ⟨(Nat.le_of_ble_eq_true rfl), (Nat.le_of_ble_eq_true rfl)⟩) ⟨pn_B_blind, (pn_B_at hPc hK)⟩ rfl rfl hl.1 rfl (lv_room (Nat.le_of_ble_eq_true rfl)) dX5_many_9 ⟨(Nat.le_of_ble_eq_true rfl), (Nat.le_of_ble_eq_true rfl)⟩) hS hA hP (fun r_1 H locs hw hP hS => ?_)
  have hP : va_P D vwCl [(h0, .inr (5, [.int 0, .int 0, .ref a2, .ref a3, .ref a4, .ref a5, .ref a6, .ref a7, .ref a8, .ref a9, .ref a10, .ref a11, .ref a12, .ref a13, .ref a14, .ref a15, .ref a16, .ref a17, .ref a18, .ref a19, .ref a20, .ref a21, .ref a22, .ref a23, .int 0, .int 0, .int 0, .int 0, .int 0, .int 0, .int 0, .ref a31]))] H := hP
  rcases hw with ⟨rfl, hw⟩ | ⟨rfl, hw⟩
  · try simp only [Int32.reduceToInt] at hw
    have hw_2 := hw
    refine lv_if_eq (tgt := 23) hx hb dX5_many_12 (by decide) (fun h9 => absurd h9 (by decide)) (fun _ => ?_)
    refine lv_aload_n hx hb dX5_many_15 rfl (lv_at hl 0 rfl) ?_
    refine lv_iload_n hx hb dX5_many_16 rfl (lv_at hl 1 rfl) ?_
    have hPc := hP.sub (ws' := [(h0, .inr (5, [.int 0, .int 0, .ref a2, .ref a3, .ref a4, .ref a5, .ref a6, .ref a7, .ref a8, .ref a9, .ref a10, .ref a11, .ref a12, .ref a13, .ref a14, .ref a15, .ref a16, .ref a17, .ref a18, .ref a19, .ref a20, .ref a21, .ref a22, .ref a23, .int 0, .int 0, .int 0, .int 0, .int 0, .int 0, .int 0, .ref a31]))]) [0] rfl
    refine pn_ci (va_runV (As := [.int p0]) (rest := []) ⟨hx, hb, hml, hown, hts⟩ (c_X5_manyNow l D cI cZ cJ cG H.size h0 a2 a3 a4 a5 a6 a7 a8 a9 a10 a11 a12 a13 a14 a15 a16 a17 a18 a19 a20 a21 a22 a23 a31 0 p0) (cwV 1 hts (pl_V (pl_m 737 (by decide +kernel)) (pl_m 738 (by decide +kernel)) (pl_m 739 (by decide +kernel)) (pl_m 5 (by decide +kernel)) (pl_m 740 (by decide +kernel))) rfl rfl rfl (by decide +kernel) ⟨(Nat.le_of_ble_eq_true rfl), (Nat.le_of_ble_eq_true rfl)⟩) ⟨pn_B_blind, va_recv hK hPc (ci := 5) (q0 := 0) rfl rfl, (pn_B_at hPc hK)⟩ rfl rfl hl.1 rfl (lv_room (Nat.le_of_ble_eq_true rfl)) dX5_many_17 ⟨(Nat.le_of_ble_eq_true rfl), (Nat.le_of_ble_eq_true rfl)⟩) hS hA hP (fun r_3 H locs hw hP hS => ?_)
    have hP : va_P D vwCl [(h0, .inr (5, [.int 0, .int 0, .ref a2, .ref a3, .ref a4, .ref a5, .ref a6, .ref a7, .ref a8, .ref a9, .ref a10, .ref a11, .ref a12, .ref a13, .ref a14, .ref a15, .ref a16, .ref a17, .ref a18, .ref a19, .ref a20, .ref a21, .ref a22, .ref a23, .int 0, .int 0, .int 0, .int 0, .int 0, .int 0, .int 0, .ref a31]))] H := hP
    obtain ⟨rfl, hw⟩ := hw
    try simp only [Int32.reduceToInt] at hw
    refine lv_goto (tgt := 28) hx hb dX5_many_20 (by decide) ?_
    have hP9 := hP.sub (ws' := [(h0, .inr (5, [.int 0, .int 0, .ref a2, .ref a3, .ref a4, .ref a5, .ref a6, .ref a7, .ref a8, .ref a9, .ref a10, .ref a11, .ref a12, .ref a13, .ref a14, .ref a15, .ref a16, .ref a17, .ref a18, .ref a19, .ref a20, .ref a21, .ref a22, .ref a23, .int 0, .int 0, .int 0, .int 0, .int 0, .int 0, .int 0, .ref a31]))]) [0] rfl
    have hD9 := hD.sub (ws' := [(h0, .inr (5, [.int 0, .int 0, .ref a2, .ref a3, .ref a4, .ref a5, .ref a6, .ref a7, .ref a8, .ref a9, .ref a10, .ref a11, .ref a12, .ref a13, .ref a14, .ref a15, .ref a16, .ref a17, .ref a18, .ref a19, .ref a20, .ref a21, .ref a22, .ref a23, .int 0, .int 0, .int 0, .int 0, .int 0, .int 0, .int 0, .ref a31]))]) [0] (by decide) rfl
    exact W.iret (v := 0) hx hb hr (fun tz_ ht hW => ⟨⟨0, (0, [.int 0, .ref a2, .ref a3, .ref a4, .ref a5, .ref a6, .ref a7, .ref a8, .ref a9, .ref a10, .ref a11, .ref a12, .ref a13, .ref a14, .ref a15, .ref a16, .ref a17, .ref a18, .ref a19, .ref a20, .ref a21, .ref a22, .ref a23, .int 0, .int 0, .int 0, .int 0, .int 0, .int 0, .int 0, .ref a31]), rfl, (Or.inl ⟨rfl, rfl, (by first | exact trivial | omega | (simp only [Int32.reduceToInt] at *; omega) | decide)⟩), (by rw [ht]; exact hP9), hD9⟩, hS.F ht⟩) hS.2.2 dX5_many_28
  · try simp only [Int32.reduceToInt] at hw
    have hw_4 := hw
    refine lv_if_eq (tgt := 23) hx hb dX5_many_12 (by decide) (fun _ => ?_) (fun h9 => absurd (by decide) h9)
    refine lv_aload_n hx hb dX5_many_23 rfl (lv_at hl 0 rfl) ?_
    refine lv_iconst (v := 1) hx hb dX5_many_24 (by decide) ?_
    have hPc := hP.sub (ws' := [(h0, .inr (5, [.int 0, .int 0, .ref a2, .ref a3, .ref a4, .ref a5, .ref a6, .ref a7, .ref a8, .ref a9, .ref a10, .ref a11, .ref a12, .ref a13, .ref a14, .ref a15, .ref a16, .ref a17, .ref a18, .ref a19, .ref a20, .ref a21, .ref a22, .ref a23, .int 0, .int 0, .int 0, .int 0, .int 0, .int 0, .int 0, .ref a31]))]) [0] rfl
    have hDc := hD.sub (ws' := [(h0, .inr (5, [.int 0, .int 0, .ref a2, .ref a3, .ref a4, .ref a5, .ref a6, .ref a7, .ref a8, .ref a9, .ref a10, .ref a11, .ref a12, .ref a13, .ref a14, .ref a15, .ref a16, .ref a17, .ref a18, .ref a19, .ref a20, .ref a21, .ref a22, .ref a23, .int 0, .int 0, .int 0, .int 0, .int 0, .int 0, .int 0, .ref a31]))]) [0] (by decide) rfl
    refine pn_mi (w1 := fun (u : Unit) => [(h0, .inr (5, [.int 1, .int 0, .ref a2, .ref a3, .ref a4, .ref a5, .ref a6, .ref a7, .ref a8, .ref a9, .ref a10, .ref a11, .ref a12, .ref a13, .ref a14, .ref a15, .ref a16, .ref a17, .ref a18, .ref a19, .ref a20, .ref a21, .ref a22, .ref a23, .int 0, .int 0, .int 0, .int 0, .int 0, .int 0, .int 0, .ref a31]))]) (wr := []) (wc := [(h0, .inr (5, [.int 0, .int 0, .ref a2, .ref a3, .ref a4, .ref a5, .ref a6, .ref a7, .ref a8, .ref a9, .ref a10, .ref a11, .ref a12, .ref a13, .ref a14, .ref a15, .ref a16, .ref a17, .ref a18, .ref a19, .ref a20, .ref a21, .ref a22, .ref a23, .int 0, .int 0, .int 0, .int 0, .int 0, .int 0, .int 0, .ref a31]))]) [0] [] (va_runV (As := [.int 1]) (rest := []) ⟨hx, hb, hml, hown, hts⟩ (c_X5_no l D cI cZ cJ cG H.size h0 a2 a3 a4 a5 a6 a7 a8 a9 a10 a11 a12 a13 a14 a15 a16 a17 a18 a19 a20 a21 a22 a23 a31 0 1) (cwV 1 hts (pl_V (pl_m 142 (by decide +kernel)) (pl_m 143 (by decide +kernel)) (pl_m 144 (by decide +kernel)) (pl_m 5 (by decide +kernel)) (pl_m 145 (by decide +kernel))) rfl rfl rfl (by decide +kernel) ⟨(Nat.le_of_ble_eq_true rfl), (Nat.le_of_ble_eq_true rfl)⟩) ⟨pn_M_blind, va_recv hK hPc (ci := 5) (q0 := 0) rfl rfl, (pn_M_at hPc hDc hK)⟩ rfl rfl hl.1 rfl (lv_room (Nat.le_of_ble_eq_true rfl)) dX5_many_25 ⟨(Nat.le_of_ble_eq_true rfl), (Nat.le_of_ble_eq_true rfl)⟩) hS hA hP hD rfl rfl (by decide) (by decide) (fun r_5 u_5 H locs hw hP hD hS => ?_)
    have hP : va_P D vwCl [(h0, .inr (5, [.int 1, .int 0, .ref a2, .ref a3, .ref a4, .ref a5, .ref a6, .ref a7, .ref a8, .ref a9, .ref a10, .ref a11, .ref a12, .ref a13, .ref a14, .ref a15, .ref a16, .ref a17, .ref a18, .ref a19, .ref a20, .ref a21, .ref a22, .ref a23, .int 0, .int 0, .int 0, .int 0, .int 0, .int 0, .int 0, .ref a31]))] H := hP
    have hD : va_D (A) [(h0, .inr (5, [.int 1, .int 0, .ref a2, .ref a3, .ref a4, .ref a5, .ref a6, .ref a7, .ref a8, .ref a9, .ref a10, .ref a11, .ref a12, .ref a13, .ref a14, .ref a15, .ref a16, .ref a17, .ref a18, .ref a19, .ref a20, .ref a21, .ref a22, .ref a23, .int 0, .int 0, .int 0, .int 0, .int 0, .int 0, .int 0, .ref a31]))] := hD
    obtain ⟨rfl, hw⟩ := hw
    try simp only [Int32.reduceToInt] at hw
    have hP9 := hP.sub (ws' := [(h0, .inr (5, [.int 1, .int 0, .ref a2, .ref a3, .ref a4, .ref a5, .ref a6, .ref a7, .ref a8, .ref a9, .ref a10, .ref a11, .ref a12, .ref a13, .ref a14, .ref a15, .ref a16, .ref a17, .ref a18, .ref a19, .ref a20, .ref a21, .ref a22, .ref a23, .int 0, .int 0, .int 0, .int 0, .int 0, .int 0, .int 0, .ref a31]))]) [0] rfl
    have hD9 := hD.sub (ws' := [(h0, .inr (5, [.int 1, .int 0, .ref a2, .ref a3, .ref a4, .ref a5, .ref a6, .ref a7, .ref a8, .ref a9, .ref a10, .ref a11, .ref a12, .ref a13, .ref a14, .ref a15, .ref a16, .ref a17, .ref a18, .ref a19, .ref a20, .ref a21, .ref a22, .ref a23, .int 0, .int 0, .int 0, .int 0, .int 0, .int 0, .int 0, .ref a31]))]) [0] (by decide) rfl
    exact W.iret (v := 0) hx hb hr (fun tz_ ht hW => ⟨⟨0, (1, [.int 0, .ref a2, .ref a3, .ref a4, .ref a5, .ref a6, .ref a7, .ref a8, .ref a9, .ref a10, .ref a11, .ref a12, .ref a13, .ref a14, .ref a15, .ref a16, .ref a17, .ref a18, .ref a19, .ref a20, .ref a21, .ref a22, .ref a23, .int 0, .int 0, .int 0, .int 0, .int 0, .int 0, .int 0, .ref a31]), rfl, (Or.inr ⟨rfl, rfl, (by first | exact trivial | omega | (simp only [Int32.reduceToInt] at *; omega) | decide)⟩), (by rw [ht]; exact hP9), hD9⟩, hS.F ht⟩) hS.2.2 dX5_many_28
set_option maxHeartbeats 4000000 in
set_option maxRecDepth 100000 in
theorem c_X5_meanCost (l : Launch) (D : va_G) (cI cZ cJ cG : ClassId) (sz : Nat) (h0 : Nat) (a2 : Nat) (a3 : Nat) (a4 : Nat) (a5 : Nat) (a6 : Nat) (a7 : Nat) (a8 : Nat) (a9 : Nat) (a10 : Nat) (a11 : Nat) (a12 : Nat) (a13 : Nat) (a14 : Nat) (a15 : Nat) (a16 : Nat) (a17 : Nat) (a18 : Nat) (a19 : Nat) (a20 : Nat) (a21 : Nat) (a22 : Nat) (a23 : Nat) (a31 : Nat) : Met l yX5_meanCost (pl_h yX5_meanCost cX5_meanCost 1 (some .double)) ({ frames := 0, cells := 0, slots := 0, locals := 0 }) (va_Pc [.ref h0] (pn_M D (pn_Y cI cZ cJ cG) [(h0, .inr (5, [.int 0, .int 0, .ref a2, .ref a3, .ref a4, .ref a5, .ref a6, .ref a7, .ref a8, .ref a9, .ref a10, .ref a11, .ref a12, .ref a13, .ref a14, .ref a15, .ref a16, .ref a17, .ref a18, .ref a19, .ref a20, .ref a21, .ref a22, .ref a23, .int 0, .int 0, .int 0, .int 0, .int 0, .int 0, .int 0, .ref a31]))] sz)) (va_Qd (fun (r : UInt64) (u : Unit) => (r = FP.dconst0 ∧ True)) (fun u tz_ => va_P D vwCl [] tz_.heap ∧ va_D (va_A [(h0, .inr (5, [.int 0, .int 0, .ref a2, .ref a3, .ref a4, .ref a5, .ref a6, .ref a7, .ref a8, .ref a9, .ref a10, .ref a11, .ref a12, .ref a13, .ref a14, .ref a15, .ref a16, .ref a17, .ref a18, .ref a19, .ref a20, .ref a21, .ref a22, .ref a23, .int 0, .int 0, .int 0, .int 0, .int 0, .int 0, .int 0, .ref a31]))] sz) []) (va_A [(h0, .inr (5, [.int 0, .int 0, .ref a2, .ref a3, .ref a4, .ref a5, .ref a6, .ref a7, .ref a8, .ref a9, .ref a10, .ref a11, .ref a12, .ref a13, .ref a14, .ref a15, .ref a16, .ref a17, .ref a18, .ref a19, .ref a20, .ref a21, .ref a22, .ref a23, .int 0, .int 0, .int 0, .int 0, .int 0, .int 0, .int 0, .ref a31]))] sz)) 0 0 (va_A [(h0, .inr (5, [.int 0, .int 0, .ref a2, .ref a3, .ref a4, .ref a5, .ref a6, .ref a7, .ref a8, .ref a9, .ref a10, .ref a11, .ref a12, .ref a13, .ref a14, .ref a15, .ref a16, .ref a17, .ref a18, .ref a19, .ref a20, .ref a21, .ref a22, .ref a23, .int 0, .int 0, .int 0, .int 0, .int 0, .int 0, .int 0, .ref a31]))] sz) := by
  refine Met.ofW (cc := cX5_meanCost) (maxL := 1) (ret := (some .double)) (by decide) rfl ?_
  intro p e s m args below meth c s₁ B hml hv
  obtain ⟨rfl, hsz, hP, hK, hD0⟩ := hv
  have hx := B.exec
  have hb := B.bytes
  have hr := B.returns
  have hts0 := atoms_spec (ws := pl_h yX5_meanCost cX5_meanCost 1 (some .double)) B.pre
  have hts := fun (w : Cond) (h : w ∈ pw_all) => hts0 w (List.mem_cons_of_mem _ h)
  have hown : s.vm.findClass RX5 = some m.cls := findClass_of_methodNamed B.named
  have hlocks := B.notSynchronized
  subst hsz
  have hD := hD0.self (sz := s.heap.size)
  generalize hAe : va_A [(h0, .inr (5, [.int 0, .int 0, .ref a2, .ref a3, .ref a4, .ref a5, .ref a6, .ref a7, .ref a8, .ref a9, .ref a10, .ref a11, .ref a12, .ref a13, .ref a14, .ref a15, .ref a16, .ref a17, .ref a18, .ref a19, .ref a20, .ref a21, .ref a22, .ref a23, .int 0, .int 0, .int 0, .int 0, .int 0, .int 0, .int 0, .ref a31]))] s.heap.size = A at hD ⊢
  have hA : ∀ q : Nat, s.heap.size ≤ q → A q := fun q h => by rw [← hAe]; exact Or.inr h
  have hS : va_S A s.heap s.heap [] := va_S.rf
  have hl := lv_entry ([.ref h0]) (n := 1) (Nat.le_of_ble_eq_true rfl)
  rw [lg_entry_eq]
  generalize (lg_sl ([.ref h0]) ++ List.replicate (1 - (lg_sl ([.ref h0])).length) Slot.unset).toArray = ls at hl ⊢
  have hl : lv_has ls 1 [(0, .ref h0)] := hl
  refine lv_aload_n hx hb dX5_meanCost_0 rfl (lv_at hl 0 rfl) ?_
  refine lv_iconst (v := 0) hx hb dX5_meanCost_1 (by decide) ?_
  refine va_put (D := D) (ci := 5) (v := .int 0) (ty := .int) (C := RX5) (T := TX5) (N := 32) hx hb hts inlX5 tyX5 tyX5_ok nmX5 hown hK hP hD hS 0 rfl rfl 0 (by decide) (hts (.fieldLink RX5 80 "VtableTownModel" "thrown" "I") (pl_m 137 (by decide +kernel))) (fun _ h9 => h9) rfl (by decide +kernel) rfl rfl (Nat.le_of_ble_eq_true rfl) dX5_meanCost_2 (fun H locs hP hD hS => ?_)
  have hP : va_P D vwCl [(h0, .inr (5, [.int 0, .int 0, .ref a2, .ref a3, .ref a4, .ref a5, .ref a6, .ref a7, .ref a8, .ref a9, .ref a10, .ref a11, .ref a12, .ref a13, .ref a14, .ref a15, .ref a16, .ref a17, .ref a18, .ref a19, .ref a20, .ref a21, .ref a22, .ref a23, .int 0, .int 0, .int 0, .int 0, .int 0, .int 0, .int 0, .ref a31]))] H := hP
  have hD : va_D (A) [(h0, .inr (5, [.int 0, .int 0, .ref a2, .ref a3, .ref a4, .ref a5, .ref a6, .ref a7, .ref a8, .ref a9, .ref a10, .ref a11, .ref a12, .ref a13, .ref a14, .ref a15, .ref a16, .ref a17, .ref a18, .ref a19, .ref a20, .ref a21, .ref a22, .ref a23, .int 0, .int 0, .int 0, .int 0, .int 0, .int 0, .int 0, .ref a31]))] := hD
  refine lv_aload_n hx hb dX5_meanCost_5 rfl (lv_at hl 0 rfl) ?_
  refine va_get (D := D) (ci := 5) (v := .int 0) (C := RX5) (T := TX5) (N := 32) hx hb hts inlX5 hown hK hP 0 rfl rfl 25 (by decide) (hts (.fieldLink RX5 102 "VtableTownModel" "runs" "I") (pl_m 568 (by decide +kernel))) (fun _ h9 => h9) rfl dX5_meanCost_6 ?_
  refine lv_if_ne (tgt := 16) hx hb dX5_meanCost_9 (by decide) (fun h9 => absurd (by decide) h9) (fun _ => ?_)
  refine lv_dconst0 hx hb dX5_meanCost_12 ?_
  refine lv_goto (tgt := 27) hx hb dX5_meanCost_13 (by decide) ?_
  have hP9 := hP.sub (ws' := []) [] rfl
  have hD9 := hD.sub (ws' := []) [] (by decide) rfl
  exact W.dret (v := FP.dconst0) hx hb hr (fun tz_ ht hW => ⟨⟨FP.dconst0, (), rfl, ⟨rfl, (by first | exact trivial | omega | (simp only [Int32.reduceToInt] at *; omega) | decide)⟩, (by rw [ht]; exact hP9), hD9⟩, hS.F ht⟩) hS.2.2 dX5_meanCost_27
set_option maxHeartbeats 4000000 in
set_option maxRecDepth 100000 in
theorem c_X5_digest (l : Launch) (D : va_G) (cI cZ cJ cG : ClassId) (sz : Nat) (h0 : Nat) (a2 : Nat) (a3 : Nat) (a4 : Nat) (a5 : Nat) (a6 : Nat) (a7 : Nat) (a8 : Nat) (a9 : Nat) (a10 : Nat) (a11 : Nat) (a12 : Nat) (a13 : Nat) (a14 : Nat) (a15 : Nat) (a16 : Nat) (a17 : Nat) (a18 : Nat) (a19 : Nat) (a20 : Nat) (a21 : Nat) (a22 : Nat) (a23 : Nat) (a31 : Nat) : Met l yX5_digest (pl_h yX5_digest cX5_digest 5 (some .long)) ({ frames := 3, cells := 0, slots := 0, locals := 69 }) (va_Pc [.ref h0] (pn_M D (pn_Y cI cZ cJ cG) [(h0, .inr (5, [.int 0, .int 0, .ref a2, .ref a3, .ref a4, .ref a5, .ref a6, .ref a7, .ref a8, .ref a9, .ref a10, .ref a11, .ref a12, .ref a13, .ref a14, .ref a15, .ref a16, .ref a17, .ref a18, .ref a19, .ref a20, .ref a21, .ref a22, .ref a23, .int 0, .int 0, .int 0, .int 0, .int 0, .int 0, .int 0, .ref a31]))] sz)) (va_Ql (fun (r : Int64) (u : Unit) => (r = (-8624976736318270479) ∧ True)) (fun u tz_ => va_P D vwCl [] tz_.heap ∧ va_D (va_A [(h0, .inr (5, [.int 0, .int 0, .ref a2, .ref a3, .ref a4, .ref a5, .ref a6, .ref a7, .ref a8, .ref a9, .ref a10, .ref a11, .ref a12, .ref a13, .ref a14, .ref a15, .ref a16, .ref a17, .ref a18, .ref a19, .ref a20, .ref a21, .ref a22, .ref a23, .int 0, .int 0, .int 0, .int 0, .int 0, .int 0, .int 0, .ref a31]))] sz) []) (va_A [(h0, .inr (5, [.int 0, .int 0, .ref a2, .ref a3, .ref a4, .ref a5, .ref a6, .ref a7, .ref a8, .ref a9, .ref a10, .ref a11, .ref a12, .ref a13, .ref a14, .ref a15, .ref a16, .ref a17, .ref a18, .ref a19, .ref a20, .ref a21, .ref a22, .ref a23, .int 0, .int 0, .int 0, .int 0, .int 0, .int 0, .int 0, .ref a31]))] sz)) 0 0 (va_A [(h0, .inr (5, [.int 0, .int 0, .ref a2, .ref a3, .ref a4, .ref a5, .ref a6, .ref a7, .ref a8, .ref a9, .ref a10, .ref a11, .ref a12, .ref a13, .ref a14, .ref a15, .ref a16, .ref a17, .ref a18, .ref a19, .ref a20, .ref a21, .ref a22, .ref a23, .int 0, .int 0, .int 0, .int 0, .int 0, .int 0, .int 0, .ref a31]))] sz) := by
  refine Met.ofW (cc := cX5_digest) (maxL := 5) (ret := (some .long)) (by decide) rfl ?_
  intro p e s m args below meth c s₁ B hml hv
  obtain ⟨rfl, hsz, hP, hK, hD0⟩ := hv
  have hx := B.exec
  have hb := B.bytes
  have hr := B.returns
  have hts0 := atoms_spec (ws := pl_h yX5_digest cX5_digest 5 (some .long)) B.pre
  have hts := fun (w : Cond) (h : w ∈ pw_all) => hts0 w (List.mem_cons_of_mem _ h)
  have hown : s.vm.findClass RX5 = some m.cls := findClass_of_methodNamed B.named
  have hlocks := B.notSynchronized
  subst hsz
  have hD := hD0.self (sz := s.heap.size)
  generalize hAe : va_A [(h0, .inr (5, [.int 0, .int 0, .ref a2, .ref a3, .ref a4, .ref a5, .ref a6, .ref a7, .ref a8, .ref a9, .ref a10, .ref a11, .ref a12, .ref a13, .ref a14, .ref a15, .ref a16, .ref a17, .ref a18, .ref a19, .ref a20, .ref a21, .ref a22, .ref a23, .int 0, .int 0, .int 0, .int 0, .int 0, .int 0, .int 0, .ref a31]))] s.heap.size = A at hD ⊢
  have hA : ∀ q : Nat, s.heap.size ≤ q → A q := fun q h => by rw [← hAe]; exact Or.inr h
  have hS : va_S A s.heap s.heap [] := va_S.rf
  have hl := lv_entry ([.ref h0]) (n := 5) (Nat.le_of_ble_eq_true rfl)
  rw [lg_entry_eq]
  generalize (lg_sl ([.ref h0]) ++ List.replicate (5 - (lg_sl ([.ref h0])).length) Slot.unset).toArray = ls at hl ⊢
  have hl : lv_has ls 5 [(0, .ref h0)] := hl
  refine lv_aload_n hx hb dX5_digest_0 rfl (lv_at hl 0 rfl) ?_
  refine lv_iconst (v := 0) hx hb dX5_digest_1 (by decide) ?_
  refine va_put (D := D) (ci := 5) (v := .int 0) (ty := .int) (C := RX5) (T := TX5) (N := 32) hx hb hts inlX5 tyX5 tyX5_ok nmX5 hown hK hP hD hS 0 rfl rfl 0 (by decide) (hts (.fieldLink RX5 80 "VtableTownModel" "thrown" "I") (pl_m 137 (by decide +kernel))) (fun _ h9 => h9) rfl (by decide +kernel) rfl rfl (Nat.le_of_ble_eq_true rfl) dX5_digest_2 (fun H locs hP hD hS => ?_)
  have hP : va_P D vwCl [(h0, .inr (5, [.int 0, .int 0, .ref a2, .ref a3, .ref a4, .ref a5, .ref a6, .ref a7, .ref a8, .ref a9, .ref a10, .ref a11, .ref a12, .ref a13, .ref a14, .ref a15, .ref a16, .ref a17, .ref a18, .ref a19, .ref a20, .ref a21, .ref a22, .ref a23, .int 0, .int 0, .int 0, .int 0, .int 0, .int 0, .int 0, .ref a31]))] H := hP
  have hD : va_D (A) [(h0, .inr (5, [.int 0, .int 0, .ref a2, .ref a3, .ref a4, .ref a5, .ref a6, .ref a7, .ref a8, .ref a9, .ref a10, .ref a11, .ref a12, .ref a13, .ref a14, .ref a15, .ref a16, .ref a17, .ref a18, .ref a19, .ref a20, .ref a21, .ref a22, .ref a23, .int 0, .int 0, .int 0, .int 0, .int 0, .int 0, .int 0, .ref a31]))] := hD
  refine lv_ldc2 hx hb hown (hts (.constantLong RX5 261 (7601)) (pl_m 866 (by decide +kernel))) dX5_digest_5 ?_
  refine lv_lstore_n (lv' := [(1, .long 7601), (0, .ref h0)]) hx hb dX5_digest_8 rfl hl (by decide) rfl (fun ls hl => ?_)
  refine lv_iconst (v := 0) hx hb dX5_digest_9 (by decide) ?_
  refine lv_istore_n (lv' := [(3, .int 0), (1, .long 7601), (0, .ref h0)]) hx hb dX5_digest_10 rfl hl (by decide) rfl (fun ls hl => ?_)
  refine lv_iload_n hx hb dX5_digest_11 rfl (lv_at hl 0 rfl) ?_
  refine lv_bipush (v := 14) hx hb dX5_digest_12 (by decide) ?_
  refine lv_icmp_ge (tgt := 36) hx hb dX5_digest_14 (by decide) (fun h9 => absurd h9 (by decide)) (fun _ => ?_)
  refine lv_lload_n hx hb dX5_digest_17 rfl (lv_at hl 1 rfl) ?_
  refine lv_ldc2 hx hb hown (hts (.constantLong RX5 263 (31)) (pl_m 867 (by decide +kernel))) dX5_digest_18 ?_
  refine lv_lmul hx hb dX5_digest_21 ?_
  refine lv_topl (fun f_1 ef_1 => ?_)
  have ef_1 : f_1 = 235631 := by rw [ef_1]; decide +kernel
  subst ef_1
  refine lv_aload_n hx hb dX5_digest_22 rfl (lv_at hl 2 rfl) ?_
  refine lv_iload_n hx hb dX5_digest_23 rfl (lv_at hl 0 rfl) ?_
  have hPc := hP.sub (ws' := [(h0, .inr (5, [.int 0, .int 0, .ref a2, .ref a3, .ref a4, .ref a5, .ref a6, .ref a7, .ref a8, .ref a9, .ref a10, .ref a11, .ref a12, .ref a13, .ref a14, .ref a15, .ref a16, .ref a17, .ref a18, .ref a19, .ref a20, .ref a21, .ref a22, .ref a23, .int 0, .int 0, .int 0, .int 0, .int 0, .int 0, .int 0, .ref a31]))]) [0] rfl
  refine pn_ci (va_runV (As := [.int 0]) (rest := [.long 235631]) ⟨hx, hb, hml, hown, hts⟩ (c_X5_manyNow l D cI cZ cJ cG H.size h0 a2 a3 a4 a5 a6 a7 a8 a9 a10 a11 a12 a13 a14 a15 a16 a17 a18 a19 a20 a21 a22 a23 a31 0 0) (cwV 1 hts (pl_V (pl_m 737 (by decide +kernel)) (pl_m 738 (by decide +kernel)) (pl_m 739 (by decide +kernel)) (pl_m 5 (by decide +kernel)) (pl_m 740 (by decide +kernel))) rfl rfl rfl (by decide +kernel) ⟨(Nat.le_of_ble_eq_true rfl), (Nat.le_of_ble_eq_true rfl)⟩) ⟨pn_B_blind, va_recv hK hPc (ci := 5) (q0 := 0) rfl rfl, (pn_B_at hPc hK)⟩ rfl rfl hl.1 rfl (lv_room (Nat.le_of_ble_eq_true rfl)) dX5_digest_24 ⟨(Nat.le_of_ble_eq_true rfl), (Nat.le_of_ble_eq_true rfl)⟩) hS hA hP (fun r_2 H locs hw hP hS => ?_)
  have hP : va_P D vwCl [(h0, .inr (5, [.int 0, .int 0, .ref a2, .ref a3, .ref a4, .ref a5, .ref a6, .ref a7, .ref a8, .ref a9, .ref a10, .ref a11, .ref a12, .ref a13, .ref a14, .ref a15, .ref a16, .ref a17, .ref a18, .ref a19, .ref a20, .ref a21, .ref a22, .ref a23, .int 0, .int 0, .int 0, .int 0, .int 0, .int 0, .int 0, .ref a31]))] H := hP
  obtain ⟨rfl, hw⟩ := hw
  try simp only [Int32.reduceToInt] at hw
  refine lv_i2l (v := 0) hx hb dX5_digest_27 (by decide +kernel) ?_
  refine lv_ladd hx hb dX5_digest_28 ?_
  refine lv_topl (fun f_3 ef_3 => ?_)
  have ef_3 : f_3 = 235631 := by rw [ef_3]; decide +kernel
  subst ef_3
  refine lv_lstore_n (lv' := [(1, .long 235631), (3, .int 0), (0, .ref h0)]) hx hb dX5_digest_29 rfl hl (by decide) rfl (fun ls hl => ?_)
  refine lv_iinc (v := 1) (lv' := [(3, .int 1), (1, .long 235631), (0, .ref h0)]) hx hb dX5_digest_30 hl (k := 1) rfl (by decide) (by decide) rfl (fun ls hl => ?_)
  refine lv_goto (tgt := 11) hx hb dX5_digest_33 (by decide) ?_
  refine lv_iload_n hx hb dX5_digest_11 rfl (lv_at hl 0 rfl) ?_
  refine lv_bipush (v := 14) hx hb dX5_digest_12 (by decide) ?_
  refine lv_icmp_ge (tgt := 36) hx hb dX5_digest_14 (by decide) (fun h9 => absurd h9 (by decide)) (fun _ => ?_)
  refine lv_lload_n hx hb dX5_digest_17 rfl (lv_at hl 1 rfl) ?_
  refine lv_ldc2 hx hb hown (hts (.constantLong RX5 263 (31)) (pl_m 867 (by decide +kernel))) dX5_digest_18 ?_
  refine lv_lmul hx hb dX5_digest_21 ?_
  refine lv_topl (fun f_4 ef_4 => ?_)
  have ef_4 : f_4 = 7304561 := by rw [ef_4]; decide +kernel
  subst ef_4
  refine lv_aload_n hx hb dX5_digest_22 rfl (lv_at hl 2 rfl) ?_
  refine lv_iload_n hx hb dX5_digest_23 rfl (lv_at hl 0 rfl) ?_
  have hPc := hP.sub (ws' := [(h0, .inr (5, [.int 0, .int 0, .ref a2, .ref a3, .ref a4, .ref a5, .ref a6, .ref a7, .ref a8, .ref a9, .ref a10, .ref a11, .ref a12, .ref a13, .ref a14, .ref a15, .ref a16, .ref a17, .ref a18, .ref a19, .ref a20, .ref a21, .ref a22, .ref a23, .int 0, .int 0, .int 0, .int 0, .int 0, .int 0, .int 0, .ref a31]))]) [0] rfl
  refine pn_ci (va_runV (As := [.int 1]) (rest := [.long 7304561]) ⟨hx, hb, hml, hown, hts⟩ (c_X5_manyNow l D cI cZ cJ cG H.size h0 a2 a3 a4 a5 a6 a7 a8 a9 a10 a11 a12 a13 a14 a15 a16 a17 a18 a19 a20 a21 a22 a23 a31 0 1) (cwV 1 hts (pl_V (pl_m 737 (by decide +kernel)) (pl_m 738 (by decide +kernel)) (pl_m 739 (by decide +kernel)) (pl_m 5 (by decide +kernel)) (pl_m 740 (by decide +kernel))) rfl rfl rfl (by decide +kernel) ⟨(Nat.le_of_ble_eq_true rfl), (Nat.le_of_ble_eq_true rfl)⟩) ⟨pn_B_blind, va_recv hK hPc (ci := 5) (q0 := 0) rfl rfl, (pn_B_at hPc hK)⟩ rfl rfl hl.1 rfl (lv_room (Nat.le_of_ble_eq_true rfl)) dX5_digest_24 ⟨(Nat.le_of_ble_eq_true rfl), (Nat.le_of_ble_eq_true rfl)⟩) hS hA hP (fun r_5 H locs hw hP hS => ?_)
  have hP : va_P D vwCl [(h0, .inr (5, [.int 0, .int 0, .ref a2, .ref a3, .ref a4, .ref a5, .ref a6, .ref a7, .ref a8, .ref a9, .ref a10, .ref a11, .ref a12, .ref a13, .ref a14, .ref a15, .ref a16, .ref a17, .ref a18, .ref a19, .ref a20, .ref a21, .ref a22, .ref a23, .int 0, .int 0, .int 0, .int 0, .int 0, .int 0, .int 0, .ref a31]))] H := hP
  obtain ⟨rfl, hw⟩ := hw
  try simp only [Int32.reduceToInt] at hw
  refine lv_i2l (v := 0) hx hb dX5_digest_27 (by decide +kernel) ?_
  refine lv_ladd hx hb dX5_digest_28 ?_
  refine lv_topl (fun f_6 ef_6 => ?_)
  have ef_6 : f_6 = 7304561 := by rw [ef_6]; decide +kernel
  subst ef_6
  refine lv_lstore_n (lv' := [(1, .long 7304561), (3, .int 1), (0, .ref h0)]) hx hb dX5_digest_29 rfl hl (by decide) rfl (fun ls hl => ?_)
  refine lv_iinc (v := 2) (lv' := [(3, .int 2), (1, .long 7304561), (0, .ref h0)]) hx hb dX5_digest_30 hl (k := 1) rfl (by decide) (by decide) rfl (fun ls hl => ?_)
  refine lv_goto (tgt := 11) hx hb dX5_digest_33 (by decide) ?_
  refine lv_iload_n hx hb dX5_digest_11 rfl (lv_at hl 0 rfl) ?_
  refine lv_bipush (v := 14) hx hb dX5_digest_12 (by decide) ?_
  refine lv_icmp_ge (tgt := 36) hx hb dX5_digest_14 (by decide) (fun h9 => absurd h9 (by decide)) (fun _ => ?_)
  refine lv_lload_n hx hb dX5_digest_17 rfl (lv_at hl 1 rfl) ?_
  refine lv_ldc2 hx hb hown (hts (.constantLong RX5 263 (31)) (pl_m 867 (by decide +kernel))) dX5_digest_18 ?_
  refine lv_lmul hx hb dX5_digest_21 ?_
  refine lv_topl (fun f_7 ef_7 => ?_)
  have ef_7 : f_7 = 226441391 := by rw [ef_7]; decide +kernel
  subst ef_7
  refine lv_aload_n hx hb dX5_digest_22 rfl (lv_at hl 2 rfl) ?_
  refine lv_iload_n hx hb dX5_digest_23 rfl (lv_at hl 0 rfl) ?_
  have hPc := hP.sub (ws' := [(h0, .inr (5, [.int 0, .int 0, .ref a2, .ref a3, .ref a4, .ref a5, .ref a6, .ref a7, .ref a8, .ref a9, .ref a10, .ref a11, .ref a12, .ref a13, .ref a14, .ref a15, .ref a16, .ref a17, .ref a18, .ref a19, .ref a20, .ref a21, .ref a22, .ref a23, .int 0, .int 0, .int 0, .int 0, .int 0, .int 0, .int 0, .ref a31]))]) [0] rfl
  refine pn_ci (va_runV (As := [.int 2]) (rest := [.long 226441391]) ⟨hx, hb, hml, hown, hts⟩ (c_X5_manyNow l D cI cZ cJ cG H.size h0 a2 a3 a4 a5 a6 a7 a8 a9 a10 a11 a12 a13 a14 a15 a16 a17 a18 a19 a20 a21 a22 a23 a31 0 2) (cwV 1 hts (pl_V (pl_m 737 (by decide +kernel)) (pl_m 738 (by decide +kernel)) (pl_m 739 (by decide +kernel)) (pl_m 5 (by decide +kernel)) (pl_m 740 (by decide +kernel))) rfl rfl rfl (by decide +kernel) ⟨(Nat.le_of_ble_eq_true rfl), (Nat.le_of_ble_eq_true rfl)⟩) ⟨pn_B_blind, va_recv hK hPc (ci := 5) (q0 := 0) rfl rfl, (pn_B_at hPc hK)⟩ rfl rfl hl.1 rfl (lv_room (Nat.le_of_ble_eq_true rfl)) dX5_digest_24 ⟨(Nat.le_of_ble_eq_true rfl), (Nat.le_of_ble_eq_true rfl)⟩) hS hA hP (fun r_8 H locs hw hP hS => ?_)
  have hP : va_P D vwCl [(h0, .inr (5, [.int 0, .int 0, .ref a2, .ref a3, .ref a4, .ref a5, .ref a6, .ref a7, .ref a8, .ref a9, .ref a10, .ref a11, .ref a12, .ref a13, .ref a14, .ref a15, .ref a16, .ref a17, .ref a18, .ref a19, .ref a20, .ref a21, .ref a22, .ref a23, .int 0, .int 0, .int 0, .int 0, .int 0, .int 0, .int 0, .ref a31]))] H := hP
  obtain ⟨rfl, hw⟩ := hw
  try simp only [Int32.reduceToInt] at hw
  refine lv_i2l (v := 0) hx hb dX5_digest_27 (by decide +kernel) ?_
  refine lv_ladd hx hb dX5_digest_28 ?_
  refine lv_topl (fun f_9 ef_9 => ?_)
  have ef_9 : f_9 = 226441391 := by rw [ef_9]; decide +kernel
  subst ef_9
  refine lv_lstore_n (lv' := [(1, .long 226441391), (3, .int 2), (0, .ref h0)]) hx hb dX5_digest_29 rfl hl (by decide) rfl (fun ls hl => ?_)
  refine lv_iinc (v := 3) (lv' := [(3, .int 3), (1, .long 226441391), (0, .ref h0)]) hx hb dX5_digest_30 hl (k := 1) rfl (by decide) (by decide) rfl (fun ls hl => ?_)
  refine lv_goto (tgt := 11) hx hb dX5_digest_33 (by decide) ?_
  refine lv_iload_n hx hb dX5_digest_11 rfl (lv_at hl 0 rfl) ?_
  refine lv_bipush (v := 14) hx hb dX5_digest_12 (by decide) ?_
  refine lv_icmp_ge (tgt := 36) hx hb dX5_digest_14 (by decide) (fun h9 => absurd h9 (by decide)) (fun _ => ?_)
  refine lv_lload_n hx hb dX5_digest_17 rfl (lv_at hl 1 rfl) ?_
  refine lv_ldc2 hx hb hown (hts (.constantLong RX5 263 (31)) (pl_m 867 (by decide +kernel))) dX5_digest_18 ?_
  refine lv_lmul hx hb dX5_digest_21 ?_
  refine lv_topl (fun f_10 ef_10 => ?_)
  have ef_10 : f_10 = 7019683121 := by rw [ef_10]; decide +kernel
  subst ef_10
  refine lv_aload_n hx hb dX5_digest_22 rfl (lv_at hl 2 rfl) ?_
  refine lv_iload_n hx hb dX5_digest_23 rfl (lv_at hl 0 rfl) ?_
  have hPc := hP.sub (ws' := [(h0, .inr (5, [.int 0, .int 0, .ref a2, .ref a3, .ref a4, .ref a5, .ref a6, .ref a7, .ref a8, .ref a9, .ref a10, .ref a11, .ref a12, .ref a13, .ref a14, .ref a15, .ref a16, .ref a17, .ref a18, .ref a19, .ref a20, .ref a21, .ref a22, .ref a23, .int 0, .int 0, .int 0, .int 0, .int 0, .int 0, .int 0, .ref a31]))]) [0] rfl
  refine pn_ci (va_runV (As := [.int 3]) (rest := [.long 7019683121]) ⟨hx, hb, hml, hown, hts⟩ (c_X5_manyNow l D cI cZ cJ cG H.size h0 a2 a3 a4 a5 a6 a7 a8 a9 a10 a11 a12 a13 a14 a15 a16 a17 a18 a19 a20 a21 a22 a23 a31 0 3) (cwV 1 hts (pl_V (pl_m 737 (by decide +kernel)) (pl_m 738 (by decide +kernel)) (pl_m 739 (by decide +kernel)) (pl_m 5 (by decide +kernel)) (pl_m 740 (by decide +kernel))) rfl rfl rfl (by decide +kernel) ⟨(Nat.le_of_ble_eq_true rfl), (Nat.le_of_ble_eq_true rfl)⟩) ⟨pn_B_blind, va_recv hK hPc (ci := 5) (q0 := 0) rfl rfl, (pn_B_at hPc hK)⟩ rfl rfl hl.1 rfl (lv_room (Nat.le_of_ble_eq_true rfl)) dX5_digest_24 ⟨(Nat.le_of_ble_eq_true rfl), (Nat.le_of_ble_eq_true rfl)⟩) hS hA hP (fun r_11 H locs hw hP hS => ?_)
  have hP : va_P D vwCl [(h0, .inr (5, [.int 0, .int 0, .ref a2, .ref a3, .ref a4, .ref a5, .ref a6, .ref a7, .ref a8, .ref a9, .ref a10, .ref a11, .ref a12, .ref a13, .ref a14, .ref a15, .ref a16, .ref a17, .ref a18, .ref a19, .ref a20, .ref a21, .ref a22, .ref a23, .int 0, .int 0, .int 0, .int 0, .int 0, .int 0, .int 0, .ref a31]))] H := hP
  obtain ⟨rfl, hw⟩ := hw
  try simp only [Int32.reduceToInt] at hw
  refine lv_i2l (v := 0) hx hb dX5_digest_27 (by decide +kernel) ?_
  refine lv_ladd hx hb dX5_digest_28 ?_
  refine lv_topl (fun f_12 ef_12 => ?_)
  have ef_12 : f_12 = 7019683121 := by rw [ef_12]; decide +kernel
  subst ef_12
  refine lv_lstore_n (lv' := [(1, .long 7019683121), (3, .int 3), (0, .ref h0)]) hx hb dX5_digest_29 rfl hl (by decide) rfl (fun ls hl => ?_)
  refine lv_iinc (v := 4) (lv' := [(3, .int 4), (1, .long 7019683121), (0, .ref h0)]) hx hb dX5_digest_30 hl (k := 1) rfl (by decide) (by decide) rfl (fun ls hl => ?_)
  refine lv_goto (tgt := 11) hx hb dX5_digest_33 (by decide) ?_
  refine lv_iload_n hx hb dX5_digest_11 rfl (lv_at hl 0 rfl) ?_
  refine lv_bipush (v := 14) hx hb dX5_digest_12 (by decide) ?_
  refine lv_icmp_ge (tgt := 36) hx hb dX5_digest_14 (by decide) (fun h9 => absurd h9 (by decide)) (fun _ => ?_)
  refine lv_lload_n hx hb dX5_digest_17 rfl (lv_at hl 1 rfl) ?_
  refine lv_ldc2 hx hb hown (hts (.constantLong RX5 263 (31)) (pl_m 867 (by decide +kernel))) dX5_digest_18 ?_
  refine lv_lmul hx hb dX5_digest_21 ?_
  refine lv_topl (fun f_13 ef_13 => ?_)
  have ef_13 : f_13 = 217610176751 := by rw [ef_13]; decide +kernel
  subst ef_13
  refine lv_aload_n hx hb dX5_digest_22 rfl (lv_at hl 2 rfl) ?_
  refine lv_iload_n hx hb dX5_digest_23 rfl (lv_at hl 0 rfl) ?_
  have hPc := hP.sub (ws' := [(h0, .inr (5, [.int 0, .int 0, .ref a2, .ref a3, .ref a4, .ref a5, .ref a6, .ref a7, .ref a8, .ref a9, .ref a10, .ref a11, .ref a12, .ref a13, .ref a14, .ref a15, .ref a16, .ref a17, .ref a18, .ref a19, .ref a20, .ref a21, .ref a22, .ref a23, .int 0, .int 0, .int 0, .int 0, .int 0, .int 0, .int 0, .ref a31]))]) [0] rfl
  refine pn_ci (va_runV (As := [.int 4]) (rest := [.long 217610176751]) ⟨hx, hb, hml, hown, hts⟩ (c_X5_manyNow l D cI cZ cJ cG H.size h0 a2 a3 a4 a5 a6 a7 a8 a9 a10 a11 a12 a13 a14 a15 a16 a17 a18 a19 a20 a21 a22 a23 a31 0 4) (cwV 1 hts (pl_V (pl_m 737 (by decide +kernel)) (pl_m 738 (by decide +kernel)) (pl_m 739 (by decide +kernel)) (pl_m 5 (by decide +kernel)) (pl_m 740 (by decide +kernel))) rfl rfl rfl (by decide +kernel) ⟨(Nat.le_of_ble_eq_true rfl), (Nat.le_of_ble_eq_true rfl)⟩) ⟨pn_B_blind, va_recv hK hPc (ci := 5) (q0 := 0) rfl rfl, (pn_B_at hPc hK)⟩ rfl rfl hl.1 rfl (lv_room (Nat.le_of_ble_eq_true rfl)) dX5_digest_24 ⟨(Nat.le_of_ble_eq_true rfl), (Nat.le_of_ble_eq_true rfl)⟩) hS hA hP (fun r_14 H locs hw hP hS => ?_)
  have hP : va_P D vwCl [(h0, .inr (5, [.int 0, .int 0, .ref a2, .ref a3, .ref a4, .ref a5, .ref a6, .ref a7, .ref a8, .ref a9, .ref a10, .ref a11, .ref a12, .ref a13, .ref a14, .ref a15, .ref a16, .ref a17, .ref a18, .ref a19, .ref a20, .ref a21, .ref a22, .ref a23, .int 0, .int 0, .int 0, .int 0, .int 0, .int 0, .int 0, .ref a31]))] H := hP
  obtain ⟨rfl, hw⟩ := hw
  try simp only [Int32.reduceToInt] at hw
  refine lv_i2l (v := 0) hx hb dX5_digest_27 (by decide +kernel) ?_
  refine lv_ladd hx hb dX5_digest_28 ?_
  refine lv_topl (fun f_15 ef_15 => ?_)
  have ef_15 : f_15 = 217610176751 := by rw [ef_15]; decide +kernel
  subst ef_15
  refine lv_lstore_n (lv' := [(1, .long 217610176751), (3, .int 4), (0, .ref h0)]) hx hb dX5_digest_29 rfl hl (by decide) rfl (fun ls hl => ?_)
  refine lv_iinc (v := 5) (lv' := [(3, .int 5), (1, .long 217610176751), (0, .ref h0)]) hx hb dX5_digest_30 hl (k := 1) rfl (by decide) (by decide) rfl (fun ls hl => ?_)
  refine lv_goto (tgt := 11) hx hb dX5_digest_33 (by decide) ?_
  refine lv_iload_n hx hb dX5_digest_11 rfl (lv_at hl 0 rfl) ?_
  refine lv_bipush (v := 14) hx hb dX5_digest_12 (by decide) ?_
  refine lv_icmp_ge (tgt := 36) hx hb dX5_digest_14 (by decide) (fun h9 => absurd h9 (by decide)) (fun _ => ?_)
  refine lv_lload_n hx hb dX5_digest_17 rfl (lv_at hl 1 rfl) ?_
  refine lv_ldc2 hx hb hown (hts (.constantLong RX5 263 (31)) (pl_m 867 (by decide +kernel))) dX5_digest_18 ?_
  refine lv_lmul hx hb dX5_digest_21 ?_
  refine lv_topl (fun f_16 ef_16 => ?_)
  have ef_16 : f_16 = 6745915479281 := by rw [ef_16]; decide +kernel
  subst ef_16
  refine lv_aload_n hx hb dX5_digest_22 rfl (lv_at hl 2 rfl) ?_
  refine lv_iload_n hx hb dX5_digest_23 rfl (lv_at hl 0 rfl) ?_
  have hPc := hP.sub (ws' := [(h0, .inr (5, [.int 0, .int 0, .ref a2, .ref a3, .ref a4, .ref a5, .ref a6, .ref a7, .ref a8, .ref a9, .ref a10, .ref a11, .ref a12, .ref a13, .ref a14, .ref a15, .ref a16, .ref a17, .ref a18, .ref a19, .ref a20, .ref a21, .ref a22, .ref a23, .int 0, .int 0, .int 0, .int 0, .int 0, .int 0, .int 0, .ref a31]))]) [0] rfl
  refine pn_ci (va_runV (As := [.int 5]) (rest := [.long 6745915479281]) ⟨hx, hb, hml, hown, hts⟩ (c_X5_manyNow l D cI cZ cJ cG H.size h0 a2 a3 a4 a5 a6 a7 a8 a9 a10 a11 a12 a13 a14 a15 a16 a17 a18 a19 a20 a21 a22 a23 a31 0 5) (cwV 1 hts (pl_V (pl_m 737 (by decide +kernel)) (pl_m 738 (by decide +kernel)) (pl_m 739 (by decide +kernel)) (pl_m 5 (by decide +kernel)) (pl_m 740 (by decide +kernel))) rfl rfl rfl (by decide +kernel) ⟨(Nat.le_of_ble_eq_true rfl), (Nat.le_of_ble_eq_true rfl)⟩) ⟨pn_B_blind, va_recv hK hPc (ci := 5) (q0 := 0) rfl rfl, (pn_B_at hPc hK)⟩ rfl rfl hl.1 rfl (lv_room (Nat.le_of_ble_eq_true rfl)) dX5_digest_24 ⟨(Nat.le_of_ble_eq_true rfl), (Nat.le_of_ble_eq_true rfl)⟩) hS hA hP (fun r_17 H locs hw hP hS => ?_)
  have hP : va_P D vwCl [(h0, .inr (5, [.int 0, .int 0, .ref a2, .ref a3, .ref a4, .ref a5, .ref a6, .ref a7, .ref a8, .ref a9, .ref a10, .ref a11, .ref a12, .ref a13, .ref a14, .ref a15, .ref a16, .ref a17, .ref a18, .ref a19, .ref a20, .ref a21, .ref a22, .ref a23, .int 0, .int 0, .int 0, .int 0, .int 0, .int 0, .int 0, .ref a31]))] H := hP
  obtain ⟨rfl, hw⟩ := hw
  try simp only [Int32.reduceToInt] at hw
  refine lv_i2l (v := 0) hx hb dX5_digest_27 (by decide +kernel) ?_
  refine lv_ladd hx hb dX5_digest_28 ?_
  refine lv_topl (fun f_18 ef_18 => ?_)
  have ef_18 : f_18 = 6745915479281 := by rw [ef_18]; decide +kernel
  subst ef_18
  refine lv_lstore_n (lv' := [(1, .long 6745915479281), (3, .int 5), (0, .ref h0)]) hx hb dX5_digest_29 rfl hl (by decide) rfl (fun ls hl => ?_)
  refine lv_iinc (v := 6) (lv' := [(3, .int 6), (1, .long 6745915479281), (0, .ref h0)]) hx hb dX5_digest_30 hl (k := 1) rfl (by decide) (by decide) rfl (fun ls hl => ?_)
  refine lv_goto (tgt := 11) hx hb dX5_digest_33 (by decide) ?_
  refine lv_iload_n hx hb dX5_digest_11 rfl (lv_at hl 0 rfl) ?_
  refine lv_bipush (v := 14) hx hb dX5_digest_12 (by decide) ?_
  refine lv_icmp_ge (tgt := 36) hx hb dX5_digest_14 (by decide) (fun h9 => absurd h9 (by decide)) (fun _ => ?_)
  refine lv_lload_n hx hb dX5_digest_17 rfl (lv_at hl 1 rfl) ?_
  refine lv_ldc2 hx hb hown (hts (.constantLong RX5 263 (31)) (pl_m 867 (by decide +kernel))) dX5_digest_18 ?_
  refine lv_lmul hx hb dX5_digest_21 ?_
  refine lv_topl (fun f_19 ef_19 => ?_)
  have ef_19 : f_19 = 209123379857711 := by rw [ef_19]; decide +kernel
  subst ef_19
  refine lv_aload_n hx hb dX5_digest_22 rfl (lv_at hl 2 rfl) ?_
  refine lv_iload_n hx hb dX5_digest_23 rfl (lv_at hl 0 rfl) ?_
  have hPc := hP.sub (ws' := [(h0, .inr (5, [.int 0, .int 0, .ref a2, .ref a3, .ref a4, .ref a5, .ref a6, .ref a7, .ref a8, .ref a9, .ref a10, .ref a11, .ref a12, .ref a13, .ref a14, .ref a15, .ref a16, .ref a17, .ref a18, .ref a19, .ref a20, .ref a21, .ref a22, .ref a23, .int 0, .int 0, .int 0, .int 0, .int 0, .int 0, .int 0, .ref a31]))]) [0] rfl
  refine pn_ci (va_runV (As := [.int 6]) (rest := [.long 209123379857711]) ⟨hx, hb, hml, hown, hts⟩ (c_X5_manyNow l D cI cZ cJ cG H.size h0 a2 a3 a4 a5 a6 a7 a8 a9 a10 a11 a12 a13 a14 a15 a16 a17 a18 a19 a20 a21 a22 a23 a31 0 6) (cwV 1 hts (pl_V (pl_m 737 (by decide +kernel)) (pl_m 738 (by decide +kernel)) (pl_m 739 (by decide +kernel)) (pl_m 5 (by decide +kernel)) (pl_m 740 (by decide +kernel))) rfl rfl rfl (by decide +kernel) ⟨(Nat.le_of_ble_eq_true rfl), (Nat.le_of_ble_eq_true rfl)⟩) ⟨pn_B_blind, va_recv hK hPc (ci := 5) (q0 := 0) rfl rfl, (pn_B_at hPc hK)⟩ rfl rfl hl.1 rfl (lv_room (Nat.le_of_ble_eq_true rfl)) dX5_digest_24 ⟨(Nat.le_of_ble_eq_true rfl), (Nat.le_of_ble_eq_true rfl)⟩) hS hA hP (fun r_20 H locs hw hP hS => ?_)
  have hP : va_P D vwCl [(h0, .inr (5, [.int 0, .int 0, .ref a2, .ref a3, .ref a4, .ref a5, .ref a6, .ref a7, .ref a8, .ref a9, .ref a10, .ref a11, .ref a12, .ref a13, .ref a14, .ref a15, .ref a16, .ref a17, .ref a18, .ref a19, .ref a20, .ref a21, .ref a22, .ref a23, .int 0, .int 0, .int 0, .int 0, .int 0, .int 0, .int 0, .ref a31]))] H := hP
  obtain ⟨rfl, hw⟩ := hw
  try simp only [Int32.reduceToInt] at hw
  refine lv_i2l (v := 0) hx hb dX5_digest_27 (by decide +kernel) ?_
  refine lv_ladd hx hb dX5_digest_28 ?_
  refine lv_topl (fun f_21 ef_21 => ?_)
  have ef_21 : f_21 = 209123379857711 := by rw [ef_21]; decide +kernel
  subst ef_21
  refine lv_lstore_n (lv' := [(1, .long 209123379857711), (3, .int 6), (0, .ref h0)]) hx hb dX5_digest_29 rfl hl (by decide) rfl (fun ls hl => ?_)
  refine lv_iinc (v := 7) (lv' := [(3, .int 7), (1, .long 209123379857711), (0, .ref h0)]) hx hb dX5_digest_30 hl (k := 1) rfl (by decide) (by decide) rfl (fun ls hl => ?_)
  refine lv_goto (tgt := 11) hx hb dX5_digest_33 (by decide) ?_
  refine lv_iload_n hx hb dX5_digest_11 rfl (lv_at hl 0 rfl) ?_
  refine lv_bipush (v := 14) hx hb dX5_digest_12 (by decide) ?_
  refine lv_icmp_ge (tgt := 36) hx hb dX5_digest_14 (by decide) (fun h9 => absurd h9 (by decide)) (fun _ => ?_)
  refine lv_lload_n hx hb dX5_digest_17 rfl (lv_at hl 1 rfl) ?_
  refine lv_ldc2 hx hb hown (hts (.constantLong RX5 263 (31)) (pl_m 867 (by decide +kernel))) dX5_digest_18 ?_
  refine lv_lmul hx hb dX5_digest_21 ?_
  refine lv_topl (fun f_22 ef_22 => ?_)
  have ef_22 : f_22 = 6482824775589041 := by rw [ef_22]; decide +kernel
  subst ef_22
  refine lv_aload_n hx hb dX5_digest_22 rfl (lv_at hl 2 rfl) ?_
  refine lv_iload_n hx hb dX5_digest_23 rfl (lv_at hl 0 rfl) ?_
  have hPc := hP.sub (ws' := [(h0, .inr (5, [.int 0, .int 0, .ref a2, .ref a3, .ref a4, .ref a5, .ref a6, .ref a7, .ref a8, .ref a9, .ref a10, .ref a11, .ref a12, .ref a13, .ref a14, .ref a15, .ref a16, .ref a17, .ref a18, .ref a19, .ref a20, .ref a21, .ref a22, .ref a23, .int 0, .int 0, .int 0, .int 0, .int 0, .int 0, .int 0, .ref a31]))]) [0] rfl
  refine pn_ci (va_runV (As := [.int 7]) (rest := [.long 6482824775589041]) ⟨hx, hb, hml, hown, hts⟩ (c_X5_manyNow l D cI cZ cJ cG H.size h0 a2 a3 a4 a5 a6 a7 a8 a9 a10 a11 a12 a13 a14 a15 a16 a17 a18 a19 a20 a21 a22 a23 a31 0 7) (cwV 1 hts (pl_V (pl_m 737 (by decide +kernel)) (pl_m 738 (by decide +kernel)) (pl_m 739 (by decide +kernel)) (pl_m 5 (by decide +kernel)) (pl_m 740 (by decide +kernel))) rfl rfl rfl (by decide +kernel) ⟨(Nat.le_of_ble_eq_true rfl), (Nat.le_of_ble_eq_true rfl)⟩) ⟨pn_B_blind, va_recv hK hPc (ci := 5) (q0 := 0) rfl rfl, (pn_B_at hPc hK)⟩ rfl rfl hl.1 rfl (lv_room (Nat.le_of_ble_eq_true rfl)) dX5_digest_24 ⟨(Nat.le_of_ble_eq_true rfl), (Nat.le_of_ble_eq_true rfl)⟩) hS hA hP (fun r_23 H locs hw hP hS => ?_)
  have hP : va_P D vwCl [(h0, .inr (5, [.int 0, .int 0, .ref a2, .ref a3, .ref a4, .ref a5, .ref a6, .ref a7, .ref a8, .ref a9, .ref a10, .ref a11, .ref a12, .ref a13, .ref a14, .ref a15, .ref a16, .ref a17, .ref a18, .ref a19, .ref a20, .ref a21, .ref a22, .ref a23, .int 0, .int 0, .int 0, .int 0, .int 0, .int 0, .int 0, .ref a31]))] H := hP
  obtain ⟨rfl, hw⟩ := hw
  try simp only [Int32.reduceToInt] at hw
  refine lv_i2l (v := 0) hx hb dX5_digest_27 (by decide +kernel) ?_
  refine lv_ladd hx hb dX5_digest_28 ?_
  refine lv_topl (fun f_24 ef_24 => ?_)
  have ef_24 : f_24 = 6482824775589041 := by rw [ef_24]; decide +kernel
  subst ef_24
  refine lv_lstore_n (lv' := [(1, .long 6482824775589041), (3, .int 7), (0, .ref h0)]) hx hb dX5_digest_29 rfl hl (by decide) rfl (fun ls hl => ?_)
  refine lv_iinc (v := 8) (lv' := [(3, .int 8), (1, .long 6482824775589041), (0, .ref h0)]) hx hb dX5_digest_30 hl (k := 1) rfl (by decide) (by decide) rfl (fun ls hl => ?_)
  refine lv_goto (tgt := 11) hx hb dX5_digest_33 (by decide) ?_
  refine lv_iload_n hx hb dX5_digest_11 rfl (lv_at hl 0 rfl) ?_
  refine lv_bipush (v := 14) hx hb dX5_digest_12 (by decide) ?_
  refine lv_icmp_ge (tgt := 36) hx hb dX5_digest_14 (by decide) (fun h9 => absurd h9 (by decide)) (fun _ => ?_)
  refine lv_lload_n hx hb dX5_digest_17 rfl (lv_at hl 1 rfl) ?_
  refine lv_ldc2 hx hb hown (hts (.constantLong RX5 263 (31)) (pl_m 867 (by decide +kernel))) dX5_digest_18 ?_
  refine lv_lmul hx hb dX5_digest_21 ?_
  refine lv_topl (fun f_25 ef_25 => ?_)
  have ef_25 : f_25 = 200967568043260271 := by rw [ef_25]; decide +kernel
  subst ef_25
  refine lv_aload_n hx hb dX5_digest_22 rfl (lv_at hl 2 rfl) ?_
  refine lv_iload_n hx hb dX5_digest_23 rfl (lv_at hl 0 rfl) ?_
  have hPc := hP.sub (ws' := [(h0, .inr (5, [.int 0, .int 0, .ref a2, .ref a3, .ref a4, .ref a5, .ref a6, .ref a7, .ref a8, .ref a9, .ref a10, .ref a11, .ref a12, .ref a13, .ref a14, .ref a15, .ref a16, .ref a17, .ref a18, .ref a19, .ref a20, .ref a21, .ref a22, .ref a23, .int 0, .int 0, .int 0, .int 0, .int 0, .int 0, .int 0, .ref a31]))]) [0] rfl
  refine pn_ci (va_runV (As := [.int 8]) (rest := [.long 200967568043260271]) ⟨hx, hb, hml, hown, hts⟩ (c_X5_manyNow l D cI cZ cJ cG H.size h0 a2 a3 a4 a5 a6 a7 a8 a9 a10 a11 a12 a13 a14 a15 a16 a17 a18 a19 a20 a21 a22 a23 a31 0 8) (cwV 1 hts (pl_V (pl_m 737 (by decide +kernel)) (pl_m 738 (by decide +kernel)) (pl_m 739 (by decide +kernel)) (pl_m 5 (by decide +kernel)) (pl_m 740 (by decide +kernel))) rfl rfl rfl (by decide +kernel) ⟨(Nat.le_of_ble_eq_true rfl), (Nat.le_of_ble_eq_true rfl)⟩) ⟨pn_B_blind, va_recv hK hPc (ci := 5) (q0 := 0) rfl rfl, (pn_B_at hPc hK)⟩ rfl rfl hl.1 rfl (lv_room (Nat.le_of_ble_eq_true rfl)) dX5_digest_24 ⟨(Nat.le_of_ble_eq_true rfl), (Nat.le_of_ble_eq_true rfl)⟩) hS hA hP (fun r_26 H locs hw hP hS => ?_)
  have hP : va_P D vwCl [(h0, .inr (5, [.int 0, .int 0, .ref a2, .ref a3, .ref a4, .ref a5, .ref a6, .ref a7, .ref a8, .ref a9, .ref a10, .ref a11, .ref a12, .ref a13, .ref a14, .ref a15, .ref a16, .ref a17, .ref a18, .ref a19, .ref a20, .ref a21, .ref a22, .ref a23, .int 0, .int 0, .int 0, .int 0, .int 0, .int 0, .int 0, .ref a31]))] H := hP
  obtain ⟨rfl, hw⟩ := hw
  try simp only [Int32.reduceToInt] at hw
  refine lv_i2l (v := 0) hx hb dX5_digest_27 (by decide +kernel) ?_
  refine lv_ladd hx hb dX5_digest_28 ?_
  refine lv_topl (fun f_27 ef_27 => ?_)
  have ef_27 : f_27 = 200967568043260271 := by rw [ef_27]; decide +kernel
  subst ef_27
  refine lv_lstore_n (lv' := [(1, .long 200967568043260271), (3, .int 8), (0, .ref h0)]) hx hb dX5_digest_29 rfl hl (by decide) rfl (fun ls hl => ?_)
  refine lv_iinc (v := 9) (lv' := [(3, .int 9), (1, .long 200967568043260271), (0, .ref h0)]) hx hb dX5_digest_30 hl (k := 1) rfl (by decide) (by decide) rfl (fun ls hl => ?_)
  refine lv_goto (tgt := 11) hx hb dX5_digest_33 (by decide) ?_
  refine lv_iload_n hx hb dX5_digest_11 rfl (lv_at hl 0 rfl) ?_
  refine lv_bipush (v := 14) hx hb dX5_digest_12 (by decide) ?_
  refine lv_icmp_ge (tgt := 36) hx hb dX5_digest_14 (by decide) (fun h9 => absurd h9 (by decide)) (fun _ => ?_)
  refine lv_lload_n hx hb dX5_digest_17 rfl (lv_at hl 1 rfl) ?_
  refine lv_ldc2 hx hb hown (hts (.constantLong RX5 263 (31)) (pl_m 867 (by decide +kernel))) dX5_digest_18 ?_
  refine lv_lmul hx hb dX5_digest_21 ?_
  refine lv_topl (fun f_28 ef_28 => ?_)
  have ef_28 : f_28 = 6229994609341068401 := by rw [ef_28]; decide +kernel
  subst ef_28
  refine lv_aload_n hx hb dX5_digest_22 rfl (lv_at hl 2 rfl) ?_
  refine lv_iload_n hx hb dX5_digest_23 rfl (lv_at hl 0 rfl) ?_
  have hPc := hP.sub (ws' := [(h0, .inr (5, [.int 0, .int 0, .ref a2, .ref a3, .ref a4, .ref a5, .ref a6, .ref a7, .ref a8, .ref a9, .ref a10, .ref a11, .ref a12, .ref a13, .ref a14, .ref a15, .ref a16, .ref a17, .ref a18, .ref a19, .ref a20, .ref a21, .ref a22, .ref a23, .int 0, .int 0, .int 0, .int 0, .int 0, .int 0, .int 0, .ref a31]))]) [0] rfl
  refine pn_ci (va_runV (As := [.int 9]) (rest := [.long 6229994609341068401]) ⟨hx, hb, hml, hown, hts⟩ (c_X5_manyNow l D cI cZ cJ cG H.size h0 a2 a3 a4 a5 a6 a7 a8 a9 a10 a11 a12 a13 a14 a15 a16 a17 a18 a19 a20 a21 a22 a23 a31 0 9) (cwV 1 hts (pl_V (pl_m 737 (by decide +kernel)) (pl_m 738 (by decide +kernel)) (pl_m 739 (by decide +kernel)) (pl_m 5 (by decide +kernel)) (pl_m 740 (by decide +kernel))) rfl rfl rfl (by decide +kernel) ⟨(Nat.le_of_ble_eq_true rfl), (Nat.le_of_ble_eq_true rfl)⟩) ⟨pn_B_blind, va_recv hK hPc (ci := 5) (q0 := 0) rfl rfl, (pn_B_at hPc hK)⟩ rfl rfl hl.1 rfl (lv_room (Nat.le_of_ble_eq_true rfl)) dX5_digest_24 ⟨(Nat.le_of_ble_eq_true rfl), (Nat.le_of_ble_eq_true rfl)⟩) hS hA hP (fun r_29 H locs hw hP hS => ?_)
  have hP : va_P D vwCl [(h0, .inr (5, [.int 0, .int 0, .ref a2, .ref a3, .ref a4, .ref a5, .ref a6, .ref a7, .ref a8, .ref a9, .ref a10, .ref a11, .ref a12, .ref a13, .ref a14, .ref a15, .ref a16, .ref a17, .ref a18, .ref a19, .ref a20, .ref a21, .ref a22, .ref a23, .int 0, .int 0, .int 0, .int 0, .int 0, .int 0, .int 0, .ref a31]))] H := hP
  obtain ⟨rfl, hw⟩ := hw
  try simp only [Int32.reduceToInt] at hw
  refine lv_i2l (v := 0) hx hb dX5_digest_27 (by decide +kernel) ?_
  refine lv_ladd hx hb dX5_digest_28 ?_
  refine lv_topl (fun f_30 ef_30 => ?_)
  have ef_30 : f_30 = 6229994609341068401 := by rw [ef_30]; decide +kernel
  subst ef_30
  refine lv_lstore_n (lv' := [(1, .long 6229994609341068401), (3, .int 9), (0, .ref h0)]) hx hb dX5_digest_29 rfl hl (by decide) rfl (fun ls hl => ?_)
  refine lv_iinc (v := 10) (lv' := [(3, .int 10), (1, .long 6229994609341068401), (0, .ref h0)]) hx hb dX5_digest_30 hl (k := 1) rfl (by decide) (by decide) rfl (fun ls hl => ?_)
  refine lv_goto (tgt := 11) hx hb dX5_digest_33 (by decide) ?_
  refine lv_iload_n hx hb dX5_digest_11 rfl (lv_at hl 0 rfl) ?_
  refine lv_bipush (v := 14) hx hb dX5_digest_12 (by decide) ?_
  refine lv_icmp_ge (tgt := 36) hx hb dX5_digest_14 (by decide) (fun h9 => absurd h9 (by decide)) (fun _ => ?_)
  refine lv_lload_n hx hb dX5_digest_17 rfl (lv_at hl 1 rfl) ?_
  refine lv_ldc2 hx hb hown (hts (.constantLong RX5 263 (31)) (pl_m 867 (by decide +kernel))) dX5_digest_18 ?_
  refine lv_lmul hx hb dX5_digest_21 ?_
  refine lv_topl (fun f_31 ef_31 => ?_)
  have ef_31 : f_31 = 8662392152477604271 := by rw [ef_31]; decide +kernel
  subst ef_31
  refine lv_aload_n hx hb dX5_digest_22 rfl (lv_at hl 2 rfl) ?_
  refine lv_iload_n hx hb dX5_digest_23 rfl (lv_at hl 0 rfl) ?_
  have hPc := hP.sub (ws' := [(h0, .inr (5, [.int 0, .int 0, .ref a2, .ref a3, .ref a4, .ref a5, .ref a6, .ref a7, .ref a8, .ref a9, .ref a10, .ref a11, .ref a12, .ref a13, .ref a14, .ref a15, .ref a16, .ref a17, .ref a18, .ref a19, .ref a20, .ref a21, .ref a22, .ref a23, .int 0, .int 0, .int 0, .int 0, .int 0, .int 0, .int 0, .ref a31]))]) [0] rfl
  refine pn_ci (va_runV (As := [.int 10]) (rest := [.long 8662392152477604271]) ⟨hx, hb, hml, hown, hts⟩ (c_X5_manyNow l D cI cZ cJ cG H.size h0 a2 a3 a4 a5 a6 a7 a8 a9 a10 a11 a12 a13 a14 a15 a16 a17 a18 a19 a20 a21 a22 a23 a31 0 10) (cwV 1 hts (pl_V (pl_m 737 (by decide +kernel)) (pl_m 738 (by decide +kernel)) (pl_m 739 (by decide +kernel)) (pl_m 5 (by decide +kernel)) (pl_m 740 (by decide +kernel))) rfl rfl rfl (by decide +kernel) ⟨(Nat.le_of_ble_eq_true rfl), (Nat.le_of_ble_eq_true rfl)⟩) ⟨pn_B_blind, va_recv hK hPc (ci := 5) (q0 := 0) rfl rfl, (pn_B_at hPc hK)⟩ rfl rfl hl.1 rfl (lv_room (Nat.le_of_ble_eq_true rfl)) dX5_digest_24 ⟨(Nat.le_of_ble_eq_true rfl), (Nat.le_of_ble_eq_true rfl)⟩) hS hA hP (fun r_32 H locs hw hP hS => ?_)
  have hP : va_P D vwCl [(h0, .inr (5, [.int 0, .int 0, .ref a2, .ref a3, .ref a4, .ref a5, .ref a6, .ref a7, .ref a8, .ref a9, .ref a10, .ref a11, .ref a12, .ref a13, .ref a14, .ref a15, .ref a16, .ref a17, .ref a18, .ref a19, .ref a20, .ref a21, .ref a22, .ref a23, .int 0, .int 0, .int 0, .int 0, .int 0, .int 0, .int 0, .ref a31]))] H := hP
  obtain ⟨rfl, hw⟩ := hw
  try simp only [Int32.reduceToInt] at hw
  refine lv_i2l (v := 0) hx hb dX5_digest_27 (by decide +kernel) ?_
  refine lv_ladd hx hb dX5_digest_28 ?_
  refine lv_topl (fun f_33 ef_33 => ?_)
  have ef_33 : f_33 = 8662392152477604271 := by rw [ef_33]; decide +kernel
  subst ef_33
  refine lv_lstore_n (lv' := [(1, .long 8662392152477604271), (3, .int 10), (0, .ref h0)]) hx hb dX5_digest_29 rfl hl (by decide) rfl (fun ls hl => ?_)
  refine lv_iinc (v := 11) (lv' := [(3, .int 11), (1, .long 8662392152477604271), (0, .ref h0)]) hx hb dX5_digest_30 hl (k := 1) rfl (by decide) (by decide) rfl (fun ls hl => ?_)
  refine lv_goto (tgt := 11) hx hb dX5_digest_33 (by decide) ?_
  refine lv_iload_n hx hb dX5_digest_11 rfl (lv_at hl 0 rfl) ?_
  refine lv_bipush (v := 14) hx hb dX5_digest_12 (by decide) ?_
  refine lv_icmp_ge (tgt := 36) hx hb dX5_digest_14 (by decide) (fun h9 => absurd h9 (by decide)) (fun _ => ?_)
  refine lv_lload_n hx hb dX5_digest_17 rfl (lv_at hl 1 rfl) ?_
  refine lv_ldc2 hx hb hown (hts (.constantLong RX5 263 (31)) (pl_m 867 (by decide +kernel))) dX5_digest_18 ?_
  refine lv_lmul hx hb dX5_digest_21 ?_
  refine lv_topl (fun f_34 ef_34 => ?_)
  have ef_34 : f_34 = (-8167004378837541839) := by rw [ef_34]; decide +kernel
  subst ef_34
  refine lv_aload_n hx hb dX5_digest_22 rfl (lv_at hl 2 rfl) ?_
  refine lv_iload_n hx hb dX5_digest_23 rfl (lv_at hl 0 rfl) ?_
  have hPc := hP.sub (ws' := [(h0, .inr (5, [.int 0, .int 0, .ref a2, .ref a3, .ref a4, .ref a5, .ref a6, .ref a7, .ref a8, .ref a9, .ref a10, .ref a11, .ref a12, .ref a13, .ref a14, .ref a15, .ref a16, .ref a17, .ref a18, .ref a19, .ref a20, .ref a21, .ref a22, .ref a23, .int 0, .int 0, .int 0, .int 0, .int 0, .int 0, .int 0, .ref a31]))]) [0] rfl
  refine pn_ci (va_runV (As := [.int 11]) (rest := [.long (-8167004378837541839)]) ⟨hx, hb, hml, hown, hts⟩ (c_X5_manyNow l D cI cZ cJ cG H.size h0 a2 a3 a4 a5 a6 a7 a8 a9 a10 a11 a12 a13 a14 a15 a16 a17 a18 a19 a20 a21 a22 a23 a31 0 11) (cwV 1 hts (pl_V (pl_m 737 (by decide +kernel)) (pl_m 738 (by decide +kernel)) (pl_m 739 (by decide +kernel)) (pl_m 5 (by decide +kernel)) (pl_m 740 (by decide +kernel))) rfl rfl rfl (by decide +kernel) ⟨(Nat.le_of_ble_eq_true rfl), (Nat.le_of_ble_eq_true rfl)⟩) ⟨pn_B_blind, va_recv hK hPc (ci := 5) (q0 := 0) rfl rfl, (pn_B_at hPc hK)⟩ rfl rfl hl.1 rfl (lv_room (Nat.le_of_ble_eq_true rfl)) dX5_digest_24 ⟨(Nat.le_of_ble_eq_true rfl), (Nat.le_of_ble_eq_true rfl)⟩) hS hA hP (fun r_35 H locs hw hP hS => ?_)
  have hP : va_P D vwCl [(h0, .inr (5, [.int 0, .int 0, .ref a2, .ref a3, .ref a4, .ref a5, .ref a6, .ref a7, .ref a8, .ref a9, .ref a10, .ref a11, .ref a12, .ref a13, .ref a14, .ref a15, .ref a16, .ref a17, .ref a18, .ref a19, .ref a20, .ref a21, .ref a22, .ref a23, .int 0, .int 0, .int 0, .int 0, .int 0, .int 0, .int 0, .ref a31]))] H := hP
  obtain ⟨rfl, hw⟩ := hw
  try simp only [Int32.reduceToInt] at hw
  refine lv_i2l (v := 0) hx hb dX5_digest_27 (by decide +kernel) ?_
  refine lv_ladd hx hb dX5_digest_28 ?_
  refine lv_topl (fun f_36 ef_36 => ?_)
  have ef_36 : f_36 = (-8167004378837541839) := by rw [ef_36]; decide +kernel
  subst ef_36
  refine lv_lstore_n (lv' := [(1, .long (-8167004378837541839)), (3, .int 11), (0, .ref h0)]) hx hb dX5_digest_29 rfl hl (by decide) rfl (fun ls hl => ?_)
  refine lv_iinc (v := 12) (lv' := [(3, .int 12), (1, .long (-8167004378837541839)), (0, .ref h0)]) hx hb dX5_digest_30 hl (k := 1) rfl (by decide) (by decide) rfl (fun ls hl => ?_)
  refine lv_goto (tgt := 11) hx hb dX5_digest_33 (by decide) ?_
  refine lv_iload_n hx hb dX5_digest_11 rfl (lv_at hl 0 rfl) ?_
  refine lv_bipush (v := 14) hx hb dX5_digest_12 (by decide) ?_
  refine lv_icmp_ge (tgt := 36) hx hb dX5_digest_14 (by decide) (fun h9 => absurd h9 (by decide)) (fun _ => ?_)
  refine lv_lload_n hx hb dX5_digest_17 rfl (lv_at hl 1 rfl) ?_
  refine lv_ldc2 hx hb hown (hts (.constantLong RX5 263 (31)) (pl_m 867 (by decide +kernel))) dX5_digest_18 ?_
  refine lv_lmul hx hb dX5_digest_21 ?_
  refine lv_topl (fun f_37 ef_37 => ?_)
  have ef_37 : f_37 = 5077281287969925615 := by rw [ef_37]; decide +kernel
  subst ef_37
  refine lv_aload_n hx hb dX5_digest_22 rfl (lv_at hl 2 rfl) ?_
  refine lv_iload_n hx hb dX5_digest_23 rfl (lv_at hl 0 rfl) ?_
  have hPc := hP.sub (ws' := [(h0, .inr (5, [.int 0, .int 0, .ref a2, .ref a3, .ref a4, .ref a5, .ref a6, .ref a7, .ref a8, .ref a9, .ref a10, .ref a11, .ref a12, .ref a13, .ref a14, .ref a15, .ref a16, .ref a17, .ref a18, .ref a19, .ref a20, .ref a21, .ref a22, .ref a23, .int 0, .int 0, .int 0, .int 0, .int 0, .int 0, .int 0, .ref a31]))]) [0] rfl
  refine pn_ci (va_runV (As := [.int 12]) (rest := [.long 5077281287969925615]) ⟨hx, hb, hml, hown, hts⟩ (c_X5_manyNow l D cI cZ cJ cG H.size h0 a2 a3 a4 a5 a6 a7 a8 a9 a10 a11 a12 a13 a14 a15 a16 a17 a18 a19 a20 a21 a22 a23 a31 0 12) (cwV 1 hts (pl_V (pl_m 737 (by decide +kernel)) (pl_m 738 (by decide +kernel)) (pl_m 739 (by decide +kernel)) (pl_m 5 (by decide +kernel)) (pl_m 740 (by decide +kernel))) rfl rfl rfl (by decide +kernel) ⟨(Nat.le_of_ble_eq_true rfl), (Nat.le_of_ble_eq_true rfl)⟩) ⟨pn_B_blind, va_recv hK hPc (ci := 5) (q0 := 0) rfl rfl, (pn_B_at hPc hK)⟩ rfl rfl hl.1 rfl (lv_room (Nat.le_of_ble_eq_true rfl)) dX5_digest_24 ⟨(Nat.le_of_ble_eq_true rfl), (Nat.le_of_ble_eq_true rfl)⟩) hS hA hP (fun r_38 H locs hw hP hS => ?_)
  have hP : va_P D vwCl [(h0, .inr (5, [.int 0, .int 0, .ref a2, .ref a3, .ref a4, .ref a5, .ref a6, .ref a7, .ref a8, .ref a9, .ref a10, .ref a11, .ref a12, .ref a13, .ref a14, .ref a15, .ref a16, .ref a17, .ref a18, .ref a19, .ref a20, .ref a21, .ref a22, .ref a23, .int 0, .int 0, .int 0, .int 0, .int 0, .int 0, .int 0, .ref a31]))] H := hP
  obtain ⟨rfl, hw⟩ := hw
  try simp only [Int32.reduceToInt] at hw
  refine lv_i2l (v := 0) hx hb dX5_digest_27 (by decide +kernel) ?_
  refine lv_ladd hx hb dX5_digest_28 ?_
  refine lv_topl (fun f_39 ef_39 => ?_)
  have ef_39 : f_39 = 5077281287969925615 := by rw [ef_39]; decide +kernel
  subst ef_39
  refine lv_lstore_n (lv' := [(1, .long 5077281287969925615), (3, .int 12), (0, .ref h0)]) hx hb dX5_digest_29 rfl hl (by decide) rfl (fun ls hl => ?_)
  refine lv_iinc (v := 13) (lv' := [(3, .int 13), (1, .long 5077281287969925615), (0, .ref h0)]) hx hb dX5_digest_30 hl (k := 1) rfl (by decide) (by decide) rfl (fun ls hl => ?_)
  refine lv_goto (tgt := 11) hx hb dX5_digest_33 (by decide) ?_
  refine lv_iload_n hx hb dX5_digest_11 rfl (lv_at hl 0 rfl) ?_
  refine lv_bipush (v := 14) hx hb dX5_digest_12 (by decide) ?_
  refine lv_icmp_ge (tgt := 36) hx hb dX5_digest_14 (by decide) (fun h9 => absurd h9 (by decide)) (fun _ => ?_)
  refine lv_lload_n hx hb dX5_digest_17 rfl (lv_at hl 1 rfl) ?_
  refine lv_ldc2 hx hb hown (hts (.constantLong RX5 263 (31)) (pl_m 867 (by decide +kernel))) dX5_digest_18 ?_
  refine lv_lmul hx hb dX5_digest_21 ?_
  refine lv_topl (fun f_40 ef_40 => ?_)
  have ef_40 : f_40 = (-8624976736318270479) := by rw [ef_40]; decide +kernel
  subst ef_40
  refine lv_aload_n hx hb dX5_digest_22 rfl (lv_at hl 2 rfl) ?_
  refine lv_iload_n hx hb dX5_digest_23 rfl (lv_at hl 0 rfl) ?_
  have hPc := hP.sub (ws' := [(h0, .inr (5, [.int 0, .int 0, .ref a2, .ref a3, .ref a4, .ref a5, .ref a6, .ref a7, .ref a8, .ref a9, .ref a10, .ref a11, .ref a12, .ref a13, .ref a14, .ref a15, .ref a16, .ref a17, .ref a18, .ref a19, .ref a20, .ref a21, .ref a22, .ref a23, .int 0, .int 0, .int 0, .int 0, .int 0, .int 0, .int 0, .ref a31]))]) [0] rfl
  refine pn_ci (va_runV (As := [.int 13]) (rest := [.long (-8624976736318270479)]) ⟨hx, hb, hml, hown, hts⟩ (c_X5_manyNow l D cI cZ cJ cG H.size h0 a2 a3 a4 a5 a6 a7 a8 a9 a10 a11 a12 a13 a14 a15 a16 a17 a18 a19 a20 a21 a22 a23 a31 0 13) (cwV 1 hts (pl_V (pl_m 737 (by decide +kernel)) (pl_m 738 (by decide +kernel)) (pl_m 739 (by decide +kernel)) (pl_m 5 (by decide +kernel)) (pl_m 740 (by decide +kernel))) rfl rfl rfl (by decide +kernel) ⟨(Nat.le_of_ble_eq_true rfl), (Nat.le_of_ble_eq_true rfl)⟩) ⟨pn_B_blind, va_recv hK hPc (ci := 5) (q0 := 0) rfl rfl, (pn_B_at hPc hK)⟩ rfl rfl hl.1 rfl (lv_room (Nat.le_of_ble_eq_true rfl)) dX5_digest_24 ⟨(Nat.le_of_ble_eq_true rfl), (Nat.le_of_ble_eq_true rfl)⟩) hS hA hP (fun r_41 H locs hw hP hS => ?_)
  have hP : va_P D vwCl [(h0, .inr (5, [.int 0, .int 0, .ref a2, .ref a3, .ref a4, .ref a5, .ref a6, .ref a7, .ref a8, .ref a9, .ref a10, .ref a11, .ref a12, .ref a13, .ref a14, .ref a15, .ref a16, .ref a17, .ref a18, .ref a19, .ref a20, .ref a21, .ref a22, .ref a23, .int 0, .int 0, .int 0, .int 0, .int 0, .int 0, .int 0, .ref a31]))] H := hP
  obtain ⟨rfl, hw⟩ := hw
  try simp only [Int32.reduceToInt] at hw
  refine lv_i2l (v := 0) hx hb dX5_digest_27 (by decide +kernel) ?_
  refine lv_ladd hx hb dX5_digest_28 ?_
  refine lv_topl (fun f_42 ef_42 => ?_)
  have ef_42 : f_42 = (-8624976736318270479) := by rw [ef_42]; decide +kernel
  subst ef_42
  refine lv_lstore_n (lv' := [(1, .long (-8624976736318270479)), (3, .int 13), (0, .ref h0)]) hx hb dX5_digest_29 rfl hl (by decide) rfl (fun ls hl => ?_)
  refine lv_iinc (v := 14) (lv' := [(3, .int 14), (1, .long (-8624976736318270479)), (0, .ref h0)]) hx hb dX5_digest_30 hl (k := 1) rfl (by decide) (by decide) rfl (fun ls hl => ?_)
  refine lv_goto (tgt := 11) hx hb dX5_digest_33 (by decide) ?_
  refine lv_iload_n hx hb dX5_digest_11 rfl (lv_at hl 0 rfl) ?_
  refine lv_bipush (v := 14) hx hb dX5_digest_12 (by decide) ?_
  refine lv_icmp_ge (tgt := 36) hx hb dX5_digest_14 (by decide) (fun _ => ?_) (fun h9 => absurd (by decide) h9)
  refine lv_iconst (v := 0) hx hb dX5_digest_36 (by decide) ?_
  refine lv_istore_n (lv' := [(3, .int 0), (1, .long (-8624976736318270479)), (0, .ref h0)]) hx hb dX5_digest_37 rfl hl (by decide) rfl (fun ls hl => ?_)
  refine lv_iload_n hx hb dX5_digest_38 rfl (lv_at hl 0 rfl) ?_
  refine lv_aload_n hx hb dX5_digest_39 rfl (lv_at hl 2 rfl) ?_
  refine va_get (D := D) (ci := 5) (v := .int 0) (C := RX5) (T := TX5) (N := 32) hx hb hts inlX5 hown hK hP 0 rfl rfl 1 (by decide) (hts (.fieldLink RX5 84 "VtableTownModel" "classes" "I") (pl_m 138 (by decide +kernel))) (fun _ h9 => h9) rfl dX5_digest_40 ?_
  refine lv_icmp_ge (tgt := 138) hx hb dX5_digest_43 (by decide) (fun _ => ?_) (fun h9 => absurd (by decide) h9)
  refine lv_iconst (v := 0) hx hb dX5_digest_138 (by decide) ?_
  refine lv_istore_n (lv' := [(3, .int 0), (1, .long (-8624976736318270479)), (0, .ref h0)]) hx hb dX5_digest_139 rfl hl (by decide) rfl (fun ls hl => ?_)
  have LOOP : ∀ (n i : Nat) (H : Heap) (locs : List Loc) (ls : Array Slot), i + n = 504 → va_P D vwCl [(h0, .inr (5, [.int 0, .int 0, .ref a2, .ref a3, .ref a4, .ref a5, .ref a6, .ref a7, .ref a8, .ref a9, .ref a10, .ref a11, .ref a12, .ref a13, .ref a14, .ref a15, .ref a16, .ref a17, .ref a18, .ref a19, .ref a20, .ref a21, .ref a22, .ref a23, .int 0, .int 0, .int 0, .int 0, .int 0, .int 0, .int 0, .ref a31]))] H → va_S (A) s.heap H locs → lv_has ls 5 [(0, .ref h0), (1, .long (-8624976736318270479)), (3, .int (nI i))] → W p l e (headSpec (pl_h yX5_digest cX5_digest 5 (some .long)) ({ frames := 3, cells := 0, slots := 0, locals := 69 })).room s m ([.ref h0] : List Value).toArray below meth c H locs 0 0 (MQ below (va_Ql (fun (r : Int64) (u : Unit) => (r = (-8624976736318270479) ∧ True)) (fun u tz_ => va_P D vwCl [] tz_.heap ∧ va_D A []) A) ([.ref h0] : List Value).toArray s 0 0 (A)) (F0 m 140 ls []) := by
    intro n
    induction n with
    | zero =>
      intro i H locs ls hi hP hS hl
      obtain rfl : i = 504 := by omega
      have hl : lv_has ls 5 [(0, .ref h0), (1, .long (-8624976736318270479)), (3, .int 504)] := hl
      refine lv_iload_n hx hb dX5_digest_140 rfl (lv_at hl 2 rfl) ?_
      refine lv_sipush (v := 504) hx hb dX5_digest_141 (by decide) ?_
      refine lv_icmp_ge (tgt := 192) hx hb dX5_digest_144 (by decide) (fun _ => ?_) (fun h9 => absurd (by decide) h9)
      refine lv_iconst (v := 0) hx hb dX5_digest_192 (by decide) ?_
      refine lv_istore_n (lv' := [(3, .int 0), (0, .ref h0), (1, .long (-8624976736318270479))]) hx hb dX5_digest_193 rfl hl (by decide) rfl (fun ls hl => ?_)
      refine lv_iload_n hx hb dX5_digest_194 rfl (lv_at hl 0 rfl) ?_
      refine lv_aload_n hx hb dX5_digest_195 rfl (lv_at hl 1 rfl) ?_
      refine va_get (D := D) (ci := 5) (v := .int 0) (C := RX5) (T := TX5) (N := 32) hx hb hts inlX5 hown hK hP 0 rfl rfl 1 (by decide) (hts (.fieldLink RX5 84 "VtableTownModel" "classes" "I") (pl_m 138 (by decide +kernel))) (fun _ h9 => h9) rfl dX5_digest_196 ?_
      refine lv_icmp_ge (tgt := 236) hx hb dX5_digest_199 (by decide) (fun _ => ?_) (fun h9 => absurd (by decide) h9)
      refine lv_lload_n hx hb dX5_digest_236 rfl (lv_at hl 2 rfl) ?_
      have hP9 := hP.sub (ws' := []) [] rfl
      have hD9 := hD.sub (ws' := []) [] (by decide) rfl
      exact W.lret (v := (-8624976736318270479)) hx hb hr (fun tz_ ht hW => ⟨⟨(-8624976736318270479), (), rfl, ⟨rfl, (by first | exact trivial | omega | (simp only [Int32.reduceToInt] at *; omega) | decide)⟩, (by rw [ht]; exact hP9), hD9⟩, hS.F ht⟩) hS.2.2 dX5_digest_237
    | succ n ih =>
      intro i H locs ls hi hP hS hl
      refine lv_iload_n hx hb dX5_digest_140 rfl (lv_at hl 2 rfl) ?_
      refine lv_sipush (v := 504) hx hb dX5_digest_141 (by decide) ?_
      have hn_44 := nI_toInt (n := i) (by omega)
      refine lv_icmp_ge (tgt := 192) hx hb dX5_digest_144 (by decide) (fun c_43 => ?_) (fun c_43 => ?_)
      · simp only [pn_lt, pn_le, pn_eq, Int32.reduceToInt] at c_43
        exfalso; omega
      · simp only [pn_lt, pn_le, pn_eq, Int32.reduceToInt] at c_43
        refine lv_iconst (v := 0) hx hb dX5_digest_147 (by decide) ?_
        refine lv_istore (lv' := [(4, .int 0), (0, .ref h0), (1, .long (-8624976736318270479)), (3, .int (nI i))]) hx hb dX5_digest_148 hl (by decide) rfl (fun ls hl => ?_)
        refine lv_iload hx hb dX5_digest_150 (lv_at hl 0 rfl) ?_
        refine lv_bipush (v := 7) hx hb dX5_digest_152 (by decide) ?_
        refine lv_icmp_ge (tgt := 186) hx hb dX5_digest_154 (by decide) (fun h9 => absurd h9 (by decide)) (fun _ => ?_)
        refine lv_aload_n hx hb dX5_digest_157 rfl (lv_at hl 1 rfl) ?_
        refine lv_iload_n hx hb dX5_digest_158 rfl (lv_at hl 3 rfl) ?_
        have hPc := hP.sub (ws' := [(h0, .inr (5, [.int 0, .int 0, .ref a2, .ref a3, .ref a4, .ref a5, .ref a6, .ref a7, .ref a8, .ref a9, .ref a10, .ref a11, .ref a12, .ref a13, .ref a14, .ref a15, .ref a16, .ref a17, .ref a18, .ref a19, .ref a20, .ref a21, .ref a22, .ref a23, .int 0, .int 0, .int 0, .int 0, .int 0, .int 0, .int 0, .ref a31]))]) [0] rfl
        refine pn_ci (va_runV (As := [.int (nI i)]) (rest := []) ⟨hx, hb, hml, hown, hts⟩ (c_X5_isPlace l D cI cZ cJ cG H.size h0 0 ([.ref a2, .ref a3, .ref a4, .ref a5, .ref a6, .ref a7, .ref a8, .ref a9, .ref a10, .ref a11, .ref a12, .ref a13, .ref a14, .ref a15, .ref a16, .ref a17, .ref a18, .ref a19, .ref a20, .ref a21, .ref a22, .ref a23, .int 0, .int 0, .int 0, .int 0, .int 0, .int 0, .int 0, .ref a31]) i (by omega)) (cwV 1 hts (pl_V (pl_m 414 (by decide +kernel)) (pl_m 415 (by decide +kernel)) (pl_m 416 (by decide +kernel)) (pl_m 5 (by decide +kernel)) (pl_m 417 (by decide +kernel))) rfl rfl rfl (by decide +kernel) ⟨(Nat.le_of_ble_eq_true rfl), (Nat.le_of_ble_eq_true rfl)⟩) ⟨pn_B_blind, va_recv hK hPc (ci := 5) (q0 := 0) rfl rfl, (pn_B_at hPc hK)⟩ rfl rfl hl.1 rfl (lv_room (Nat.le_of_ble_eq_true rfl)) dX5_digest_159 ⟨(Nat.le_of_ble_eq_true rfl), (Nat.le_of_ble_eq_true rfl)⟩) hS hA hP (fun r_45 H locs hw hP hS => ?_)
        have hP : va_P D vwCl [(h0, .inr (5, [.int 0, .int 0, .ref a2, .ref a3, .ref a4, .ref a5, .ref a6, .ref a7, .ref a8, .ref a9, .ref a10, .ref a11, .ref a12, .ref a13, .ref a14, .ref a15, .ref a16, .ref a17, .ref a18, .ref a19, .ref a20, .ref a21, .ref a22, .ref a23, .int 0, .int 0, .int 0, .int 0, .int 0, .int 0, .int 0, .ref a31]))] H := hP
        obtain ⟨rfl, hw⟩ := hw
        try simp only [Int32.reduceToInt] at hw
        refine lv_if_eq (tgt := 186) hx hb dX5_digest_162 (by decide) (fun _ => ?_) (fun h9 => absurd (by decide) h9)
        refine lv_iinc (v := (nI (i + 1))) (lv' := [(3, .int (nI (i + 1))), (4, .int 0), (0, .ref h0), (1, .long (-8624976736318270479))]) hx hb dX5_digest_186 hl (k := 3) rfl (nI_1 i) (by decide) rfl (fun ls hl => ?_)
        refine lv_goto (tgt := 140) hx hb dX5_digest_189 (by decide) ?_
        exact ih (i + 1) H locs ls (by omega) hP hS (lv_sub hl [2, 3, 0] rfl)
  exact LOOP 504 0 _ locs ls (by omega) hP hS (lv_sub hl [2, 1, 0] rfl)
set_option maxHeartbeats 4000000 in
set_option maxRecDepth 100000 in
theorem c_X5_fail (l : Launch) (D : va_G) (cI cZ cJ cG : ClassId) (sz : Nat) (h0 : Nat) (a2 : Nat) (a3 : Nat) (a4 : Nat) (a5 : Nat) (a6 : Nat) (a7 : Nat) (a8 : Nat) (a9 : Nat) (a10 : Nat) (a11 : Nat) (a12 : Nat) (a13 : Nat) (a14 : Nat) (a15 : Nat) (a16 : Nat) (a17 : Nat) (a18 : Nat) (a19 : Nat) (a20 : Nat) (a21 : Nat) (a22 : Nat) (a23 : Nat) (a31 : Nat) (th : Int32) (fl : Int32) (rn : Int32) (p1 : Int32) : Met l yX5_fail (pl_h yX5_fail cX5_fail 3 (some .int)) ({ frames := 0, cells := 0, slots := 0, locals := 0 }) (va_Pc [.ref h0, .int 1, .int p1] (pn_M D (pn_Y cI cZ cJ cG) [(h0, .inr (5, [.int th, .int 0, .ref a2, .ref a3, .ref a4, .ref a5, .ref a6, .ref a7, .ref a8, .ref a9, .ref a10, .ref a11, .ref a12, .ref a13, .ref a14, .ref a15, .ref a16, .ref a17, .ref a18, .ref a19, .ref a20, .ref a21, .ref a22, .ref a23, .int 0, .int rn, .int 0, .int 0, .int 0, .int fl, .int 0, .ref a31]))] sz)) (va_Qi (fun (r : Int32) (u : Unit) => (r = 1 ∧ True)) (fun u tz_ => va_P D vwCl [(h0, .inr (5, [.int th, .int 0, .ref a2, .ref a3, .ref a4, .ref a5, .ref a6, .ref a7, .ref a8, .ref a9, .ref a10, .ref a11, .ref a12, .ref a13, .ref a14, .ref a15, .ref a16, .ref a17, .ref a18, .ref a19, .ref a20, .ref a21, .ref a22, .ref a23, .int 0, .int rn, .int 0, .int 0, .int 0, .int 1, .int 0, .ref a31]))] tz_.heap ∧ va_D (va_A [(h0, .inr (5, [.int th, .int 0, .ref a2, .ref a3, .ref a4, .ref a5, .ref a6, .ref a7, .ref a8, .ref a9, .ref a10, .ref a11, .ref a12, .ref a13, .ref a14, .ref a15, .ref a16, .ref a17, .ref a18, .ref a19, .ref a20, .ref a21, .ref a22, .ref a23, .int 0, .int rn, .int 0, .int 0, .int 0, .int fl, .int 0, .ref a31]))] sz) [(h0, .inr (5, [.int th, .int 0, .ref a2, .ref a3, .ref a4, .ref a5, .ref a6, .ref a7, .ref a8, .ref a9, .ref a10, .ref a11, .ref a12, .ref a13, .ref a14, .ref a15, .ref a16, .ref a17, .ref a18, .ref a19, .ref a20, .ref a21, .ref a22, .ref a23, .int 0, .int rn, .int 0, .int 0, .int 0, .int 1, .int 0, .ref a31]))]) (va_A [(h0, .inr (5, [.int th, .int 0, .ref a2, .ref a3, .ref a4, .ref a5, .ref a6, .ref a7, .ref a8, .ref a9, .ref a10, .ref a11, .ref a12, .ref a13, .ref a14, .ref a15, .ref a16, .ref a17, .ref a18, .ref a19, .ref a20, .ref a21, .ref a22, .ref a23, .int 0, .int rn, .int 0, .int 0, .int 0, .int fl, .int 0, .ref a31]))] sz)) 0 0 (va_A [(h0, .inr (5, [.int th, .int 0, .ref a2, .ref a3, .ref a4, .ref a5, .ref a6, .ref a7, .ref a8, .ref a9, .ref a10, .ref a11, .ref a12, .ref a13, .ref a14, .ref a15, .ref a16, .ref a17, .ref a18, .ref a19, .ref a20, .ref a21, .ref a22, .ref a23, .int 0, .int rn, .int 0, .int 0, .int 0, .int fl, .int 0, .ref a31]))] sz) := by
  refine Met.ofW (cc := cX5_fail) (maxL := 3) (ret := (some .int)) (by decide) rfl ?_
  intro p e s m args below meth c s₁ B hml hv
  obtain ⟨rfl, hsz, hP, hK, hD0⟩ := hv
  have hx := B.exec
  have hb := B.bytes
  have hr := B.returns
  have hts0 := atoms_spec (ws := pl_h yX5_fail cX5_fail 3 (some .int)) B.pre
  have hts := fun (w : Cond) (h : w ∈ pw_all) => hts0 w (List.mem_cons_of_mem _ h)
  have hown : s.vm.findClass RX5 = some m.cls := findClass_of_methodNamed B.named
  have hlocks := B.notSynchronized
  subst hsz
  have hD := hD0.self (sz := s.heap.size)
  generalize hAe : va_A [(h0, .inr (5, [.int th, .int 0, .ref a2, .ref a3, .ref a4, .ref a5, .ref a6, .ref a7, .ref a8, .ref a9, .ref a10, .ref a11, .ref a12, .ref a13, .ref a14, .ref a15, .ref a16, .ref a17, .ref a18, .ref a19, .ref a20, .ref a21, .ref a22, .ref a23, .int 0, .int rn, .int 0, .int 0, .int 0, .int fl, .int 0, .ref a31]))] s.heap.size = A at hD ⊢
  have hA : ∀ q : Nat, s.heap.size ≤ q → A q := fun q h => by rw [← hAe]; exact Or.inr h
  have hS : va_S A s.heap s.heap [] := va_S.rf
  have hl := lv_entry ([.ref h0, .int 1, .int p1]) (n := 3) (Nat.le_of_ble_eq_true rfl)
  rw [lg_entry_eq]
  generalize (lg_sl ([.ref h0, .int 1, .int p1]) ++ List.replicate (3 - (lg_sl ([.ref h0, .int 1, .int p1])).length) Slot.unset).toArray = ls at hl ⊢
  have hl : lv_has ls 3 [(0, .ref h0), (1, .int 1), (2, .int p1)] := hl
  refine lv_aload_n hx hb dX5_fail_0 rfl (lv_at hl 0 rfl) ?_
  refine lv_iload_n hx hb dX5_fail_1 rfl (lv_at hl 1 rfl) ?_
  refine va_put (D := D) (ci := 5) (v := .int 1) (ty := .int) (C := RX5) (T := TX5) (N := 32) hx hb hts inlX5 tyX5 tyX5_ok nmX5 hown hK hP hD hS 0 rfl rfl 29 (by decide) (hts (.fieldLink RX5 172 "VtableTownModel" "failed" "I") (pl_m 567 (by decide +kernel))) (fun _ h9 => h9) rfl (by decide +kernel) rfl rfl (Nat.le_of_ble_eq_true rfl) dX5_fail_2 (fun H locs hP hD hS => ?_)
  have hP : va_P D vwCl [(h0, .inr (5, [.int th, .int 0, .ref a2, .ref a3, .ref a4, .ref a5, .ref a6, .ref a7, .ref a8, .ref a9, .ref a10, .ref a11, .ref a12, .ref a13, .ref a14, .ref a15, .ref a16, .ref a17, .ref a18, .ref a19, .ref a20, .ref a21, .ref a22, .ref a23, .int 0, .int rn, .int 0, .int 0, .int 0, .int 1, .int 0, .ref a31]))] H := hP
  have hD : va_D (A) [(h0, .inr (5, [.int th, .int 0, .ref a2, .ref a3, .ref a4, .ref a5, .ref a6, .ref a7, .ref a8, .ref a9, .ref a10, .ref a11, .ref a12, .ref a13, .ref a14, .ref a15, .ref a16, .ref a17, .ref a18, .ref a19, .ref a20, .ref a21, .ref a22, .ref a23, .int 0, .int rn, .int 0, .int 0, .int 0, .int 1, .int 0, .ref a31]))] := hD
  refine lv_iload_n hx hb dX5_fail_5 rfl (lv_at hl 1 rfl) ?_
  refine lv_if_ne (tgt := 13) hx hb dX5_fail_6 (by decide) (fun _ => ?_) (fun h9 => absurd h9 (by decide))
  refine lv_iload_n hx hb dX5_fail_13 rfl (lv_at hl 1 rfl) ?_
  have hP9 := hP.sub (ws' := [(h0, .inr (5, [.int th, .int 0, .ref a2, .ref a3, .ref a4, .ref a5, .ref a6, .ref a7, .ref a8, .ref a9, .ref a10, .ref a11, .ref a12, .ref a13, .ref a14, .ref a15, .ref a16, .ref a17, .ref a18, .ref a19, .ref a20, .ref a21, .ref a22, .ref a23, .int 0, .int rn, .int 0, .int 0, .int 0, .int 1, .int 0, .ref a31]))]) [0] rfl
  have hD9 := hD.sub (ws' := [(h0, .inr (5, [.int th, .int 0, .ref a2, .ref a3, .ref a4, .ref a5, .ref a6, .ref a7, .ref a8, .ref a9, .ref a10, .ref a11, .ref a12, .ref a13, .ref a14, .ref a15, .ref a16, .ref a17, .ref a18, .ref a19, .ref a20, .ref a21, .ref a22, .ref a23, .int 0, .int rn, .int 0, .int 0, .int 0, .int 1, .int 0, .ref a31]))]) [0] (by decide) rfl
  exact W.iret (v := 1) hx hb hr (fun tz_ ht hW => ⟨⟨1, (), rfl, ⟨rfl, (by first | exact trivial | omega | (simp only [Int32.reduceToInt] at *; omega) | decide)⟩, (by rw [ht]; exact hP9), hD9⟩, hS.F ht⟩) hS.2.2 dX5_fail_14
set_option maxHeartbeats 4000000 in
set_option maxRecDepth 100000 in
theorem c_X5_load (l : Launch) (D : va_G) (cI cZ cJ cG : ClassId) (sz : Nat) (h0 : Nat) (a2 : Nat) (a3 : Nat) (a4 : Nat) (a5 : Nat) (a6 : Nat) (a7 : Nat) (a8 : Nat) (a9 : Nat) (a10 : Nat) (a11 : Nat) (a12 : Nat) (a13 : Nat) (a14 : Nat) (a15 : Nat) (a16 : Nat) (a17 : Nat) (a18 : Nat) (a19 : Nat) (a20 : Nat) (a21 : Nat) (a22 : Nat) (a23 : Nat) (a31 : Nat) (th : Int32) (fl : Int32) (rn : Int32) (p0 : Int32) (p1 : Int32) : Met l yX5_load (pl_h yX5_load cX5_load 3 (some .int)) ({ frames := 3, cells := 0, slots := 0, locals := 66 }) (va_Pc [.ref h0, .int p0, .int p1] (pn_M D (pn_Y cI cZ cJ cG) [(h0, .inr (5, [.int th, .int 0, .ref a2, .ref a3, .ref a4, .ref a5, .ref a6, .ref a7, .ref a8, .ref a9, .ref a10, .ref a11, .ref a12, .ref a13, .ref a14, .ref a15, .ref a16, .ref a17, .ref a18, .ref a19, .ref a20, .ref a21, .ref a22, .ref a23, .int 0, .int rn, .int 0, .int 0, .int 0, .int fl, .int 0, .ref a31]))] sz)) (va_Qi (fun (r : Int32) (u : Unit) => (r = 1 ∧ True)) (fun u tz_ => va_P D vwCl [(h0, .inr (5, [.int th, .int 0, .ref a2, .ref a3, .ref a4, .ref a5, .ref a6, .ref a7, .ref a8, .ref a9, .ref a10, .ref a11, .ref a12, .ref a13, .ref a14, .ref a15, .ref a16, .ref a17, .ref a18, .ref a19, .ref a20, .ref a21, .ref a22, .ref a23, .int 0, .int rn, .int 0, .int 0, .int 0, .int 1, .int 0, .ref a31]))] tz_.heap ∧ va_D (va_A [(h0, .inr (5, [.int th, .int 0, .ref a2, .ref a3, .ref a4, .ref a5, .ref a6, .ref a7, .ref a8, .ref a9, .ref a10, .ref a11, .ref a12, .ref a13, .ref a14, .ref a15, .ref a16, .ref a17, .ref a18, .ref a19, .ref a20, .ref a21, .ref a22, .ref a23, .int 0, .int rn, .int 0, .int 0, .int 0, .int fl, .int 0, .ref a31]))] sz) [(h0, .inr (5, [.int th, .int 0, .ref a2, .ref a3, .ref a4, .ref a5, .ref a6, .ref a7, .ref a8, .ref a9, .ref a10, .ref a11, .ref a12, .ref a13, .ref a14, .ref a15, .ref a16, .ref a17, .ref a18, .ref a19, .ref a20, .ref a21, .ref a22, .ref a23, .int 0, .int rn, .int 0, .int 0, .int 0, .int 1, .int 0, .ref a31]))]) (va_A [(h0, .inr (5, [.int th, .int 0, .ref a2, .ref a3, .ref a4, .ref a5, .ref a6, .ref a7, .ref a8, .ref a9, .ref a10, .ref a11, .ref a12, .ref a13, .ref a14, .ref a15, .ref a16, .ref a17, .ref a18, .ref a19, .ref a20, .ref a21, .ref a22, .ref a23, .int 0, .int rn, .int 0, .int 0, .int 0, .int fl, .int 0, .ref a31]))] sz)) 0 0 (va_A [(h0, .inr (5, [.int th, .int 0, .ref a2, .ref a3, .ref a4, .ref a5, .ref a6, .ref a7, .ref a8, .ref a9, .ref a10, .ref a11, .ref a12, .ref a13, .ref a14, .ref a15, .ref a16, .ref a17, .ref a18, .ref a19, .ref a20, .ref a21, .ref a22, .ref a23, .int 0, .int rn, .int 0, .int 0, .int 0, .int fl, .int 0, .ref a31]))] sz) := by
  refine Met.ofW (cc := cX5_load) (maxL := 3) (ret := (some .int)) (by decide) rfl ?_
  intro p e s m args below meth c s₁ B hml hv
  obtain ⟨rfl, hsz, hP, hK, hD0⟩ := hv
  have hx := B.exec
  have hb := B.bytes
  have hr := B.returns
  have hts0 := atoms_spec (ws := pl_h yX5_load cX5_load 3 (some .int)) B.pre
  have hts := fun (w : Cond) (h : w ∈ pw_all) => hts0 w (List.mem_cons_of_mem _ h)
  have hown : s.vm.findClass RX5 = some m.cls := findClass_of_methodNamed B.named
  have hlocks := B.notSynchronized
  subst hsz
  have hD := hD0.self (sz := s.heap.size)
  generalize hAe : va_A [(h0, .inr (5, [.int th, .int 0, .ref a2, .ref a3, .ref a4, .ref a5, .ref a6, .ref a7, .ref a8, .ref a9, .ref a10, .ref a11, .ref a12, .ref a13, .ref a14, .ref a15, .ref a16, .ref a17, .ref a18, .ref a19, .ref a20, .ref a21, .ref a22, .ref a23, .int 0, .int rn, .int 0, .int 0, .int 0, .int fl, .int 0, .ref a31]))] s.heap.size = A at hD ⊢
  have hA : ∀ q : Nat, s.heap.size ≤ q → A q := fun q h => by rw [← hAe]; exact Or.inr h
  have hS : va_S A s.heap s.heap [] := va_S.rf
  have hl := lv_entry ([.ref h0, .int p0, .int p1]) (n := 3) (Nat.le_of_ble_eq_true rfl)
  rw [lg_entry_eq]
  generalize (lg_sl ([.ref h0, .int p0, .int p1]) ++ List.replicate (3 - (lg_sl ([.ref h0, .int p0, .int p1])).length) Slot.unset).toArray = ls at hl ⊢
  have hl : lv_has ls 3 [(0, .ref h0), (1, .int p0), (2, .int p1)] := hl
  refine lv_aload_n hx hb dX5_load_0 rfl (lv_at hl 0 rfl) ?_
  refine lv_aload_n hx hb dX5_load_1 rfl (lv_at hl 0 rfl) ?_
  refine lv_iload_n hx hb dX5_load_2 rfl (lv_at hl 1 rfl) ?_
  have hPc := hP.sub (ws' := [(h0, .inr (5, [.int th, .int 0, .ref a2, .ref a3, .ref a4, .ref a5, .ref a6, .ref a7, .ref a8, .ref a9, .ref a10, .ref a11, .ref a12, .ref a13, .ref a14, .ref a15, .ref a16, .ref a17, .ref a18, .ref a19, .ref a20, .ref a21, .ref a22, .ref a23, .int 0, .int rn, .int 0, .int 0, .int 0, .int fl, .int 0, .ref a31]))]) [0] rfl
  refine pn_ci (va_runV (As := [.int p0]) (rest := [.ref h0]) ⟨hx, hb, hml, hown, hts⟩ (c_X5_loadNow l D cI cZ cJ cG s.heap.size h0 th ([.ref a2, .ref a3, .ref a4, .ref a5, .ref a6, .ref a7, .ref a8, .ref a9, .ref a10, .ref a11, .ref a12, .ref a13, .ref a14, .ref a15, .ref a16, .ref a17, .ref a18, .ref a19, .ref a20, .ref a21, .ref a22, .ref a23, .int 0, .int rn, .int 0, .int 0, .int 0, .int fl, .int 0, .ref a31]) p0) (cwV 1 hts (pl_V (pl_m 404 (by decide +kernel)) (pl_m 405 (by decide +kernel)) (pl_m 406 (by decide +kernel)) (pl_m 5 (by decide +kernel)) (pl_m 407 (by decide +kernel))) rfl rfl rfl (by decide +kernel) ⟨(Nat.le_of_ble_eq_true rfl), (Nat.le_of_ble_eq_true rfl)⟩) ⟨pn_B_blind, va_recv hK hPc (ci := 5) (q0 := 0) rfl rfl, (pn_B_at hPc hK)⟩ rfl rfl hl.1 rfl (lv_room (Nat.le_of_ble_eq_true rfl)) dX5_load_3 ⟨(Nat.le_of_ble_eq_true rfl), (Nat.le_of_ble_eq_true rfl)⟩) hS hA hP (fun r_1 H locs hw hP hS => ?_)
  have hP : va_P D vwCl [(h0, .inr (5, [.int th, .int 0, .ref a2, .ref a3, .ref a4, .ref a5, .ref a6, .ref a7, .ref a8, .ref a9, .ref a10, .ref a11, .ref a12, .ref a13, .ref a14, .ref a15, .ref a16, .ref a17, .ref a18, .ref a19, .ref a20, .ref a21, .ref a22, .ref a23, .int 0, .int rn, .int 0, .int 0, .int 0, .int fl, .int 0, .ref a31]))] H := hP
  obtain ⟨rfl, hw⟩ := hw
  try simp only [Int32.reduceToInt] at hw
  refine lv_iload_n hx hb dX5_load_6 rfl (lv_at hl 2 rfl) ?_
  have hPc := hP.sub (ws' := [(h0, .inr (5, [.int th, .int 0, .ref a2, .ref a3, .ref a4, .ref a5, .ref a6, .ref a7, .ref a8, .ref a9, .ref a10, .ref a11, .ref a12, .ref a13, .ref a14, .ref a15, .ref a16, .ref a17, .ref a18, .ref a19, .ref a20, .ref a21, .ref a22, .ref a23, .int 0, .int rn, .int 0, .int 0, .int 0, .int fl, .int 0, .ref a31]))]) [0] rfl
  have hDc := hD.sub (ws' := [(h0, .inr (5, [.int th, .int 0, .ref a2, .ref a3, .ref a4, .ref a5, .ref a6, .ref a7, .ref a8, .ref a9, .ref a10, .ref a11, .ref a12, .ref a13, .ref a14, .ref a15, .ref a16, .ref a17, .ref a18, .ref a19, .ref a20, .ref a21, .ref a22, .ref a23, .int 0, .int rn, .int 0, .int 0, .int 0, .int fl, .int 0, .ref a31]))]) [0] (by decide) rfl
  refine pn_mi (w1 := fun (u : Unit) => [(h0, .inr (5, [.int th, .int 0, .ref a2, .ref a3, .ref a4, .ref a5, .ref a6, .ref a7, .ref a8, .ref a9, .ref a10, .ref a11, .ref a12, .ref a13, .ref a14, .ref a15, .ref a16, .ref a17, .ref a18, .ref a19, .ref a20, .ref a21, .ref a22, .ref a23, .int 0, .int rn, .int 0, .int 0, .int 0, .int 1, .int 0, .ref a31]))]) (wr := []) (wc := [(h0, .inr (5, [.int th, .int 0, .ref a2, .ref a3, .ref a4, .ref a5, .ref a6, .ref a7, .ref a8, .ref a9, .ref a10, .ref a11, .ref a12, .ref a13, .ref a14, .ref a15, .ref a16, .ref a17, .ref a18, .ref a19, .ref a20, .ref a21, .ref a22, .ref a23, .int 0, .int rn, .int 0, .int 0, .int 0, .int fl, .int 0, .ref a31]))]) [0] [] (va_runV (As := [.int 1, .int p1]) (rest := []) ⟨hx, hb, hml, hown, hts⟩ (c_X5_fail l D cI cZ cJ cG H.size h0 a2 a3 a4 a5 a6 a7 a8 a9 a10 a11 a12 a13 a14 a15 a16 a17 a18 a19 a20 a21 a22 a23 a31 th fl rn p1) (cwV 2 hts (pl_V (pl_m 578 (by decide +kernel)) (pl_m 579 (by decide +kernel)) (pl_m 580 (by decide +kernel)) (pl_m 5 (by decide +kernel)) (pl_m 581 (by decide +kernel))) rfl rfl rfl (by decide +kernel) ⟨(Nat.le_of_ble_eq_true rfl), (Nat.le_of_ble_eq_true rfl)⟩) ⟨pn_M_blind, va_recv hK hPc (ci := 5) (q0 := 0) rfl rfl, (pn_M_at hPc hDc hK)⟩ rfl rfl hl.1 rfl (lv_room (Nat.le_of_ble_eq_true rfl)) dX5_load_7 ⟨(Nat.le_of_ble_eq_true rfl), (Nat.le_of_ble_eq_true rfl)⟩) hS hA hP hD rfl rfl (by decide) (by decide) (fun r_2 u_2 H locs hw hP hD hS => ?_)
  have hP : va_P D vwCl [(h0, .inr (5, [.int th, .int 0, .ref a2, .ref a3, .ref a4, .ref a5, .ref a6, .ref a7, .ref a8, .ref a9, .ref a10, .ref a11, .ref a12, .ref a13, .ref a14, .ref a15, .ref a16, .ref a17, .ref a18, .ref a19, .ref a20, .ref a21, .ref a22, .ref a23, .int 0, .int rn, .int 0, .int 0, .int 0, .int 1, .int 0, .ref a31]))] H := hP
  have hD : va_D (A) [(h0, .inr (5, [.int th, .int 0, .ref a2, .ref a3, .ref a4, .ref a5, .ref a6, .ref a7, .ref a8, .ref a9, .ref a10, .ref a11, .ref a12, .ref a13, .ref a14, .ref a15, .ref a16, .ref a17, .ref a18, .ref a19, .ref a20, .ref a21, .ref a22, .ref a23, .int 0, .int rn, .int 0, .int 0, .int 0, .int 1, .int 0, .ref a31]))] := hD
  obtain ⟨rfl, hw⟩ := hw
  try simp only [Int32.reduceToInt] at hw
  have hP9 := hP.sub (ws' := [(h0, .inr (5, [.int th, .int 0, .ref a2, .ref a3, .ref a4, .ref a5, .ref a6, .ref a7, .ref a8, .ref a9, .ref a10, .ref a11, .ref a12, .ref a13, .ref a14, .ref a15, .ref a16, .ref a17, .ref a18, .ref a19, .ref a20, .ref a21, .ref a22, .ref a23, .int 0, .int rn, .int 0, .int 0, .int 0, .int 1, .int 0, .ref a31]))]) [0] rfl
  have hD9 := hD.sub (ws' := [(h0, .inr (5, [.int th, .int 0, .ref a2, .ref a3, .ref a4, .ref a5, .ref a6, .ref a7, .ref a8, .ref a9, .ref a10, .ref a11, .ref a12, .ref a13, .ref a14, .ref a15, .ref a16, .ref a17, .ref a18, .ref a19, .ref a20, .ref a21, .ref a22, .ref a23, .int 0, .int rn, .int 0, .int 0, .int 0, .int 1, .int 0, .ref a31]))]) [0] (by decide) rfl
  exact W.iret (v := 1) hx hb hr (fun tz_ ht hW => ⟨⟨1, (), rfl, ⟨rfl, (by first | exact trivial | omega | (simp only [Int32.reduceToInt] at *; omega) | decide)⟩, (by rw [ht]; exact hP9), hD9⟩, hS.F ht⟩) hS.2.2 dX5_load_10
set_option maxHeartbeats 4000000 in
set_option maxRecDepth 100000 in
theorem c_X5_make (l : Launch) (D : va_G) (cI cZ cJ cG : ClassId) (sz : Nat) (h0 : Nat) (a2 : Nat) (a3 : Nat) (a4 : Nat) (a5 : Nat) (a6 : Nat) (a7 : Nat) (a8 : Nat) (a9 : Nat) (a10 : Nat) (a11 : Nat) (a12 : Nat) (a13 : Nat) (a14 : Nat) (a15 : Nat) (a16 : Nat) (a17 : Nat) (a18 : Nat) (a19 : Nat) (a20 : Nat) (a21 : Nat) (a22 : Nat) (a23 : Nat) (a31 : Nat) (th : Int32) (fl : Int32) (rn : Int32) (p0 : Int32) (p1 : Int32) : Met l yX5_make (pl_h yX5_make cX5_make 7 (some .int)) ({ frames := 4, cells := 0, slots := 0, locals := 88 }) (va_Pc [.ref h0, .int p0, .int p1] (pn_M D (pn_Y cI cZ cJ cG) [(h0, .inr (5, [.int th, .int 0, .ref a2, .ref a3, .ref a4, .ref a5, .ref a6, .ref a7, .ref a8, .ref a9, .ref a10, .ref a11, .ref a12, .ref a13, .ref a14, .ref a15, .ref a16, .ref a17, .ref a18, .ref a19, .ref a20, .ref a21, .ref a22, .ref a23, .int 0, .int rn, .int 0, .int 0, .int 0, .int fl, .int 0, .ref a31]))] sz)) (va_Qi (fun (r : Int32) (u : Unit) => (r = 0 ∧ True)) (fun u tz_ => va_P D vwCl [(h0, .inr (5, [.int th, .int 0, .ref a2, .ref a3, .ref a4, .ref a5, .ref a6, .ref a7, .ref a8, .ref a9, .ref a10, .ref a11, .ref a12, .ref a13, .ref a14, .ref a15, .ref a16, .ref a17, .ref a18, .ref a19, .ref a20, .ref a21, .ref a22, .ref a23, .int 0, .int rn, .int 0, .int 0, .int 0, .int 1, .int 0, .ref a31]))] tz_.heap ∧ va_D (va_A [(h0, .inr (5, [.int th, .int 0, .ref a2, .ref a3, .ref a4, .ref a5, .ref a6, .ref a7, .ref a8, .ref a9, .ref a10, .ref a11, .ref a12, .ref a13, .ref a14, .ref a15, .ref a16, .ref a17, .ref a18, .ref a19, .ref a20, .ref a21, .ref a22, .ref a23, .int 0, .int rn, .int 0, .int 0, .int 0, .int fl, .int 0, .ref a31]))] sz) [(h0, .inr (5, [.int th, .int 0, .ref a2, .ref a3, .ref a4, .ref a5, .ref a6, .ref a7, .ref a8, .ref a9, .ref a10, .ref a11, .ref a12, .ref a13, .ref a14, .ref a15, .ref a16, .ref a17, .ref a18, .ref a19, .ref a20, .ref a21, .ref a22, .ref a23, .int 0, .int rn, .int 0, .int 0, .int 0, .int 1, .int 0, .ref a31]))]) (va_A [(h0, .inr (5, [.int th, .int 0, .ref a2, .ref a3, .ref a4, .ref a5, .ref a6, .ref a7, .ref a8, .ref a9, .ref a10, .ref a11, .ref a12, .ref a13, .ref a14, .ref a15, .ref a16, .ref a17, .ref a18, .ref a19, .ref a20, .ref a21, .ref a22, .ref a23, .int 0, .int rn, .int 0, .int 0, .int 0, .int fl, .int 0, .ref a31]))] sz)) 0 0 (va_A [(h0, .inr (5, [.int th, .int 0, .ref a2, .ref a3, .ref a4, .ref a5, .ref a6, .ref a7, .ref a8, .ref a9, .ref a10, .ref a11, .ref a12, .ref a13, .ref a14, .ref a15, .ref a16, .ref a17, .ref a18, .ref a19, .ref a20, .ref a21, .ref a22, .ref a23, .int 0, .int rn, .int 0, .int 0, .int 0, .int fl, .int 0, .ref a31]))] sz) := by
  refine Met.ofW (cc := cX5_make) (maxL := 7) (ret := (some .int)) (by decide) rfl ?_
  intro p e s m args below meth c s₁ B hml hv
  obtain ⟨rfl, hsz, hP, hK, hD0⟩ := hv
  have hx := B.exec
  have hb := B.bytes
  have hr := B.returns
  have hts0 := atoms_spec (ws := pl_h yX5_make cX5_make 7 (some .int)) B.pre
  have hts := fun (w : Cond) (h : w ∈ pw_all) => hts0 w (List.mem_cons_of_mem _ h)
  have hown : s.vm.findClass RX5 = some m.cls := findClass_of_methodNamed B.named
  have hlocks := B.notSynchronized
  subst hsz
  have hD := hD0.self (sz := s.heap.size)
  generalize hAe : va_A [(h0, .inr (5, [.int th, .int 0, .ref a2, .ref a3, .ref a4, .ref a5, .ref a6, .ref a7, .ref a8, .ref a9, .ref a10, .ref a11, .ref a12, .ref a13, .ref a14, .ref a15, .ref a16, .ref a17, .ref a18, .ref a19, .ref a20, .ref a21, .ref a22, .ref a23, .int 0, .int rn, .int 0, .int 0, .int 0, .int fl, .int 0, .ref a31]))] s.heap.size = A at hD ⊢
  have hA : ∀ q : Nat, s.heap.size ≤ q → A q := fun q h => by rw [← hAe]; exact Or.inr h
  have hS : va_S A s.heap s.heap [] := va_S.rf
  have hl := lv_entry ([.ref h0, .int p0, .int p1]) (n := 7) (Nat.le_of_ble_eq_true rfl)
  rw [lg_entry_eq]
  generalize (lg_sl ([.ref h0, .int p0, .int p1]) ++ List.replicate (7 - (lg_sl ([.ref h0, .int p0, .int p1])).length) Slot.unset).toArray = ls at hl ⊢
  have hl : lv_has ls 7 [(0, .ref h0), (1, .int p0), (2, .int p1)] := hl
  refine lv_aload_n hx hb dX5_make_0 rfl (lv_at hl 0 rfl) ?_
  refine lv_iload_n hx hb dX5_make_1 rfl (lv_at hl 1 rfl) ?_
  refine lv_iconst (v := 0) hx hb dX5_make_2 (by decide) ?_
  have hPc := hP.sub (ws' := [(h0, .inr (5, [.int th, .int 0, .ref a2, .ref a3, .ref a4, .ref a5, .ref a6, .ref a7, .ref a8, .ref a9, .ref a10, .ref a11, .ref a12, .ref a13, .ref a14, .ref a15, .ref a16, .ref a17, .ref a18, .ref a19, .ref a20, .ref a21, .ref a22, .ref a23, .int 0, .int rn, .int 0, .int 0, .int 0, .int fl, .int 0, .ref a31]))]) [0] rfl
  have hDc := hD.sub (ws' := [(h0, .inr (5, [.int th, .int 0, .ref a2, .ref a3, .ref a4, .ref a5, .ref a6, .ref a7, .ref a8, .ref a9, .ref a10, .ref a11, .ref a12, .ref a13, .ref a14, .ref a15, .ref a16, .ref a17, .ref a18, .ref a19, .ref a20, .ref a21, .ref a22, .ref a23, .int 0, .int rn, .int 0, .int 0, .int 0, .int fl, .int 0, .ref a31]))]) [0] (by decide) rfl
  refine pn_mi (w1 := fun (u : Unit) => [(h0, .inr (5, [.int th, .int 0, .ref a2, .ref a3, .ref a4, .ref a5, .ref a6, .ref a7, .ref a8, .ref a9, .ref a10, .ref a11, .ref a12, .ref a13, .ref a14, .ref a15, .ref a16, .ref a17, .ref a18, .ref a19, .ref a20, .ref a21, .ref a22, .ref a23, .int 0, .int rn, .int 0, .int 0, .int 0, .int 1, .int 0, .ref a31]))]) (wr := []) (wc := [(h0, .inr (5, [.int th, .int 0, .ref a2, .ref a3, .ref a4, .ref a5, .ref a6, .ref a7, .ref a8, .ref a9, .ref a10, .ref a11, .ref a12, .ref a13, .ref a14, .ref a15, .ref a16, .ref a17, .ref a18, .ref a19, .ref a20, .ref a21, .ref a22, .ref a23, .int 0, .int rn, .int 0, .int 0, .int 0, .int fl, .int 0, .ref a31]))]) [0] [] (va_runV (As := [.int p0, .int 0]) (rest := []) ⟨hx, hb, hml, hown, hts⟩ (c_X5_load l D cI cZ cJ cG s.heap.size h0 a2 a3 a4 a5 a6 a7 a8 a9 a10 a11 a12 a13 a14 a15 a16 a17 a18 a19 a20 a21 a22 a23 a31 th fl rn p0 0) (cwV 2 hts (pl_V (pl_m 574 (by decide +kernel)) (pl_m 575 (by decide +kernel)) (pl_m 576 (by decide +kernel)) (pl_m 5 (by decide +kernel)) (pl_m 577 (by decide +kernel))) rfl rfl rfl (by decide +kernel) ⟨(Nat.le_of_ble_eq_true rfl), (Nat.le_of_ble_eq_true rfl)⟩) ⟨pn_M_blind, va_recv hK hPc (ci := 5) (q0 := 0) rfl rfl, (pn_M_at hPc hDc hK)⟩ rfl rfl hl.1 rfl (lv_room (Nat.le_of_ble_eq_true rfl)) dX5_make_3 ⟨(Nat.le_of_ble_eq_true rfl), (Nat.le_of_ble_eq_true rfl)⟩) hS hA hP hD rfl rfl (by decide) (by decide) (fun r_1 u_1 H locs hw hP hD hS => ?_)
  have hP : va_P D vwCl [(h0, .inr (5, [.int th, .int 0, .ref a2, .ref a3, .ref a4, .ref a5, .ref a6, .ref a7, .ref a8, .ref a9, .ref a10, .ref a11, .ref a12, .ref a13, .ref a14, .ref a15, .ref a16, .ref a17, .ref a18, .ref a19, .ref a20, .ref a21, .ref a22, .ref a23, .int 0, .int rn, .int 0, .int 0, .int 0, .int 1, .int 0, .ref a31]))] H := hP
  have hD : va_D (A) [(h0, .inr (5, [.int th, .int 0, .ref a2, .ref a3, .ref a4, .ref a5, .ref a6, .ref a7, .ref a8, .ref a9, .ref a10, .ref a11, .ref a12, .ref a13, .ref a14, .ref a15, .ref a16, .ref a17, .ref a18, .ref a19, .ref a20, .ref a21, .ref a22, .ref a23, .int 0, .int rn, .int 0, .int 0, .int 0, .int 1, .int 0, .ref a31]))] := hD
  obtain ⟨rfl, hw⟩ := hw
  try simp only [Int32.reduceToInt] at hw
  refine lv_if_le (tgt := 11) hx hb dX5_make_6 (by decide) (fun h9 => absurd h9 (by decide)) (fun _ => ?_)
  refine lv_iconst (v := 0) hx hb dX5_make_9 (by decide) ?_
  have hP9 := hP.sub (ws' := [(h0, .inr (5, [.int th, .int 0, .ref a2, .ref a3, .ref a4, .ref a5, .ref a6, .ref a7, .ref a8, .ref a9, .ref a10, .ref a11, .ref a12, .ref a13, .ref a14, .ref a15, .ref a16, .ref a17, .ref a18, .ref a19, .ref a20, .ref a21, .ref a22, .ref a23, .int 0, .int rn, .int 0, .int 0, .int 0, .int 1, .int 0, .ref a31]))]) [0] rfl
  have hD9 := hD.sub (ws' := [(h0, .inr (5, [.int th, .int 0, .ref a2, .ref a3, .ref a4, .ref a5, .ref a6, .ref a7, .ref a8, .ref a9, .ref a10, .ref a11, .ref a12, .ref a13, .ref a14, .ref a15, .ref a16, .ref a17, .ref a18, .ref a19, .ref a20, .ref a21, .ref a22, .ref a23, .int 0, .int rn, .int 0, .int 0, .int 0, .int 1, .int 0, .ref a31]))]) [0] (by decide) rfl
  exact W.iret (v := 0) hx hb hr (fun tz_ ht hW => ⟨⟨0, (), rfl, ⟨rfl, (by first | exact trivial | omega | (simp only [Int32.reduceToInt] at *; omega) | decide)⟩, (by rw [ht]; exact hP9), hD9⟩, hS.F ht⟩) hS.2.2 dX5_make_10
set_option maxHeartbeats 4000000 in
set_option maxRecDepth 100000 in
theorem c_X5_runNow_0 (l : Launch) (D : va_G) (cI cZ cJ cG : ClassId) (sz : Nat) (h0 : Nat) (a2 : Nat) (a3 : Nat) (a4 : Nat) (a5 : Nat) (a6 : Nat) (a7 : Nat) (a8 : Nat) (a9 : Nat) (a10 : Nat) (a11 : Nat) (a12 : Nat) (a13 : Nat) (a14 : Nat) (a15 : Nat) (a16 : Nat) (a17 : Nat) (a18 : Nat) (a19 : Nat) (a20 : Nat) (a21 : Nat) (a22 : Nat) (a23 : Nat) (a31 : Nat) (th : Int32) (fl : Int32) (p0 : Int32) (p1 : Int32) : Met l yX5_runNow (pl_h yX5_runNow cX5_runNow 4 (some .int)) ({ frames := 5, cells := 0, slots := 0, locals := 114 }) (va_Pc [.ref h0, .int p0, .int p1] (pn_M D (pn_Y cI cZ cJ cG) [(h0, .inr (5, [.int th, .int 0, .ref a2, .ref a3, .ref a4, .ref a5, .ref a6, .ref a7, .ref a8, .ref a9, .ref a10, .ref a11, .ref a12, .ref a13, .ref a14, .ref a15, .ref a16, .ref a17, .ref a18, .ref a19, .ref a20, .ref a21, .ref a22, .ref a23, .int 0, .int 0, .int 0, .int 0, .int 0, .int fl, .int 0, .ref a31]))] sz)) (va_Qi (fun (r : Int32) (u : Unit) => (r = (-10001) ∧ True)) (fun u tz_ => va_P D vwCl [(h0, .inr (5, [.int th, .int 0, .ref a2, .ref a3, .ref a4, .ref a5, .ref a6, .ref a7, .ref a8, .ref a9, .ref a10, .ref a11, .ref a12, .ref a13, .ref a14, .ref a15, .ref a16, .ref a17, .ref a18, .ref a19, .ref a20, .ref a21, .ref a22, .ref a23, .int 0, .int 1, .int 0, .int 0, .int 0, .int 1, .int 0, .ref a31]))] tz_.heap ∧ va_D (va_A [(h0, .inr (5, [.int th, .int 0, .ref a2, .ref a3, .ref a4, .ref a5, .ref a6, .ref a7, .ref a8, .ref a9, .ref a10, .ref a11, .ref a12, .ref a13, .ref a14, .ref a15, .ref a16, .ref a17, .ref a18, .ref a19, .ref a20, .ref a21, .ref a22, .ref a23, .int 0, .int 0, .int 0, .int 0, .int 0, .int fl, .int 0, .ref a31]))] sz) [(h0, .inr (5, [.int th, .int 0, .ref a2, .ref a3, .ref a4, .ref a5, .ref a6, .ref a7, .ref a8, .ref a9, .ref a10, .ref a11, .ref a12, .ref a13, .ref a14, .ref a15, .ref a16, .ref a17, .ref a18, .ref a19, .ref a20, .ref a21, .ref a22, .ref a23, .int 0, .int 1, .int 0, .int 0, .int 0, .int 1, .int 0, .ref a31]))]) (va_A [(h0, .inr (5, [.int th, .int 0, .ref a2, .ref a3, .ref a4, .ref a5, .ref a6, .ref a7, .ref a8, .ref a9, .ref a10, .ref a11, .ref a12, .ref a13, .ref a14, .ref a15, .ref a16, .ref a17, .ref a18, .ref a19, .ref a20, .ref a21, .ref a22, .ref a23, .int 0, .int 0, .int 0, .int 0, .int 0, .int fl, .int 0, .ref a31]))] sz)) 0 0 (va_A [(h0, .inr (5, [.int th, .int 0, .ref a2, .ref a3, .ref a4, .ref a5, .ref a6, .ref a7, .ref a8, .ref a9, .ref a10, .ref a11, .ref a12, .ref a13, .ref a14, .ref a15, .ref a16, .ref a17, .ref a18, .ref a19, .ref a20, .ref a21, .ref a22, .ref a23, .int 0, .int 0, .int 0, .int 0, .int 0, .int fl, .int 0, .ref a31]))] sz) := by
  refine Met.ofW (cc := cX5_runNow) (maxL := 4) (ret := (some .int)) (by decide) rfl ?_
  intro p e s m args below meth c s₁ B hml hv
  obtain ⟨rfl, hsz, hP, hK, hD0⟩ := hv
  have hx := B.exec
  have hb := B.bytes
  have hr := B.returns
  have hts0 := atoms_spec (ws := pl_h yX5_runNow cX5_runNow 4 (some .int)) B.pre
  have hts := fun (w : Cond) (h : w ∈ pw_all) => hts0 w (List.mem_cons_of_mem _ h)
  have hown : s.vm.findClass RX5 = some m.cls := findClass_of_methodNamed B.named
  have hlocks := B.notSynchronized
  subst hsz
  have hD := hD0.self (sz := s.heap.size)
  generalize hAe : va_A [(h0, .inr (5, [.int th, .int 0, .ref a2, .ref a3, .ref a4, .ref a5, .ref a6, .ref a7, .ref a8, .ref a9, .ref a10, .ref a11, .ref a12, .ref a13, .ref a14, .ref a15, .ref a16, .ref a17, .ref a18, .ref a19, .ref a20, .ref a21, .ref a22, .ref a23, .int 0, .int 0, .int 0, .int 0, .int 0, .int fl, .int 0, .ref a31]))] s.heap.size = A at hD ⊢
  have hA : ∀ q : Nat, s.heap.size ≤ q → A q := fun q h => by rw [← hAe]; exact Or.inr h
  have hS : va_S A s.heap s.heap [] := va_S.rf
  have hl := lv_entry ([.ref h0, .int p0, .int p1]) (n := 4) (Nat.le_of_ble_eq_true rfl)
  rw [lg_entry_eq]
  generalize (lg_sl ([.ref h0, .int p0, .int p1]) ++ List.replicate (4 - (lg_sl ([.ref h0, .int p0, .int p1])).length) Slot.unset).toArray = ls at hl ⊢
  have hl : lv_has ls 4 [(0, .ref h0), (1, .int p0), (2, .int p1)] := hl
  refine lv_aload_n hx hb dX5_runNow_0 rfl (lv_at hl 0 rfl) ?_
  refine lv_iconst (v := 0) hx hb dX5_runNow_1 (by decide) ?_
  refine va_put (D := D) (ci := 5) (v := .int 0) (ty := .int) (C := RX5) (T := TX5) (N := 32) hx hb hts inlX5 tyX5 tyX5_ok nmX5 hown hK hP hD hS 0 rfl rfl 27 (by decide) (hts (.fieldLink RX5 185 "VtableTownModel" "cost" "I") (pl_m 403 (by decide +kernel))) (fun _ h9 => h9) rfl (by decide +kernel) rfl rfl (Nat.le_of_ble_eq_true rfl) dX5_runNow_2 (fun H locs hP hD hS => ?_)
  have hP : va_P D vwCl [(h0, .inr (5, [.int th, .int 0, .ref a2, .ref a3, .ref a4, .ref a5, .ref a6, .ref a7, .ref a8, .ref a9, .ref a10, .ref a11, .ref a12, .ref a13, .ref a14, .ref a15, .ref a16, .ref a17, .ref a18, .ref a19, .ref a20, .ref a21, .ref a22, .ref a23, .int 0, .int 0, .int 0, .int 0, .int 0, .int fl, .int 0, .ref a31]))] H := hP
  have hD : va_D (A) [(h0, .inr (5, [.int th, .int 0, .ref a2, .ref a3, .ref a4, .ref a5, .ref a6, .ref a7, .ref a8, .ref a9, .ref a10, .ref a11, .ref a12, .ref a13, .ref a14, .ref a15, .ref a16, .ref a17, .ref a18, .ref a19, .ref a20, .ref a21, .ref a22, .ref a23, .int 0, .int 0, .int 0, .int 0, .int 0, .int fl, .int 0, .ref a31]))] := hD
  refine lv_aload_n hx hb dX5_runNow_5 rfl (lv_at hl 0 rfl) ?_
  refine lv_iconst (v := 0) hx hb dX5_runNow_6 (by decide) ?_
  refine va_put (D := D) (ci := 5) (v := .int 0) (ty := .int) (C := RX5) (T := TX5) (N := 32) hx hb hts inlX5 tyX5 tyX5_ok nmX5 hown hK hP hD hS 0 rfl rfl 28 (by decide) (hts (.fieldLink RX5 191 "VtableTownModel" "steps" "I") (pl_m 566 (by decide +kernel))) (fun _ h9 => h9) rfl (by decide +kernel) rfl rfl (Nat.le_of_ble_eq_true rfl) dX5_runNow_7 (fun H locs hP hD hS => ?_)
  have hP : va_P D vwCl [(h0, .inr (5, [.int th, .int 0, .ref a2, .ref a3, .ref a4, .ref a5, .ref a6, .ref a7, .ref a8, .ref a9, .ref a10, .ref a11, .ref a12, .ref a13, .ref a14, .ref a15, .ref a16, .ref a17, .ref a18, .ref a19, .ref a20, .ref a21, .ref a22, .ref a23, .int 0, .int 0, .int 0, .int 0, .int 0, .int fl, .int 0, .ref a31]))] H := hP
  have hD : va_D (A) [(h0, .inr (5, [.int th, .int 0, .ref a2, .ref a3, .ref a4, .ref a5, .ref a6, .ref a7, .ref a8, .ref a9, .ref a10, .ref a11, .ref a12, .ref a13, .ref a14, .ref a15, .ref a16, .ref a17, .ref a18, .ref a19, .ref a20, .ref a21, .ref a22, .ref a23, .int 0, .int 0, .int 0, .int 0, .int 0, .int fl, .int 0, .ref a31]))] := hD
  refine lv_aload_n hx hb dX5_runNow_10 rfl (lv_at hl 0 rfl) ?_
  refine lv_iconst (v := 0) hx hb dX5_runNow_11 (by decide) ?_
  refine va_put (D := D) (ci := 5) (v := .int 0) (ty := .int) (C := RX5) (T := TX5) (N := 32) hx hb hts inlX5 tyX5 tyX5_ok nmX5 hown hK hP hD hS 0 rfl rfl 29 (by decide) (hts (.fieldLink RX5 172 "VtableTownModel" "failed" "I") (pl_m 567 (by decide +kernel))) (fun _ h9 => h9) rfl (by decide +kernel) rfl rfl (Nat.le_of_ble_eq_true rfl) dX5_runNow_12 (fun H locs hP hD hS => ?_)
  have hP : va_P D vwCl [(h0, .inr (5, [.int th, .int 0, .ref a2, .ref a3, .ref a4, .ref a5, .ref a6, .ref a7, .ref a8, .ref a9, .ref a10, .ref a11, .ref a12, .ref a13, .ref a14, .ref a15, .ref a16, .ref a17, .ref a18, .ref a19, .ref a20, .ref a21, .ref a22, .ref a23, .int 0, .int 0, .int 0, .int 0, .int 0, .int 0, .int 0, .ref a31]))] H := hP
  have hD : va_D (A) [(h0, .inr (5, [.int th, .int 0, .ref a2, .ref a3, .ref a4, .ref a5, .ref a6, .ref a7, .ref a8, .ref a9, .ref a10, .ref a11, .ref a12, .ref a13, .ref a14, .ref a15, .ref a16, .ref a17, .ref a18, .ref a19, .ref a20, .ref a21, .ref a22, .ref a23, .int 0, .int 0, .int 0, .int 0, .int 0, .int 0, .int 0, .ref a31]))] := hD
  refine lv_aload_n hx hb dX5_runNow_15 rfl (lv_at hl 0 rfl) ?_
  refine lv_iconst (v := 0) hx hb dX5_runNow_16 (by decide) ?_
  refine va_put (D := D) (ci := 5) (v := .int 0) (ty := .int) (C := RX5) (T := TX5) (N := 32) hx hb hts inlX5 tyX5 tyX5_ok nmX5 hown hK hP hD hS 0 rfl rfl 30 (by decide) (hts (.fieldLink RX5 188 "VtableTownModel" "frames" "I") (pl_m 413 (by decide +kernel))) (fun _ h9 => h9) rfl (by decide +kernel) rfl rfl (Nat.le_of_ble_eq_true rfl) dX5_runNow_17 (fun H locs hP hD hS => ?_)
  have hP : va_P D vwCl [(h0, .inr (5, [.int th, .int 0, .ref a2, .ref a3, .ref a4, .ref a5, .ref a6, .ref a7, .ref a8, .ref a9, .ref a10, .ref a11, .ref a12, .ref a13, .ref a14, .ref a15, .ref a16, .ref a17, .ref a18, .ref a19, .ref a20, .ref a21, .ref a22, .ref a23, .int 0, .int 0, .int 0, .int 0, .int 0, .int 0, .int 0, .ref a31]))] H := hP
  have hD : va_D (A) [(h0, .inr (5, [.int th, .int 0, .ref a2, .ref a3, .ref a4, .ref a5, .ref a6, .ref a7, .ref a8, .ref a9, .ref a10, .ref a11, .ref a12, .ref a13, .ref a14, .ref a15, .ref a16, .ref a17, .ref a18, .ref a19, .ref a20, .ref a21, .ref a22, .ref a23, .int 0, .int 0, .int 0, .int 0, .int 0, .int 0, .int 0, .ref a31]))] := hD
  refine lv_aload_n hx hb dX5_runNow_20 rfl (lv_at hl 0 rfl) ?_
  refine lv_iload_n hx hb dX5_runNow_21 rfl (lv_at hl 1 rfl) ?_
  refine lv_iload_n hx hb dX5_runNow_22 rfl (lv_at hl 2 rfl) ?_
  have hPc := hP.sub (ws' := [(h0, .inr (5, [.int th, .int 0, .ref a2, .ref a3, .ref a4, .ref a5, .ref a6, .ref a7, .ref a8, .ref a9, .ref a10, .ref a11, .ref a12, .ref a13, .ref a14, .ref a15, .ref a16, .ref a17, .ref a18, .ref a19, .ref a20, .ref a21, .ref a22, .ref a23, .int 0, .int 0, .int 0, .int 0, .int 0, .int 0, .int 0, .ref a31]))]) [0] rfl
  have hDc := hD.sub (ws' := [(h0, .inr (5, [.int th, .int 0, .ref a2, .ref a3, .ref a4, .ref a5, .ref a6, .ref a7, .ref a8, .ref a9, .ref a10, .ref a11, .ref a12, .ref a13, .ref a14, .ref a15, .ref a16, .ref a17, .ref a18, .ref a19, .ref a20, .ref a21, .ref a22, .ref a23, .int 0, .int 0, .int 0, .int 0, .int 0, .int 0, .int 0, .ref a31]))]) [0] (by decide) rfl
  refine pn_mi (w1 := fun (u : Unit) => [(h0, .inr (5, [.int th, .int 0, .ref a2, .ref a3, .ref a4, .ref a5, .ref a6, .ref a7, .ref a8, .ref a9, .ref a10, .ref a11, .ref a12, .ref a13, .ref a14, .ref a15, .ref a16, .ref a17, .ref a18, .ref a19, .ref a20, .ref a21, .ref a22, .ref a23, .int 0, .int 0, .int 0, .int 0, .int 0, .int 1, .int 0, .ref a31]))]) (wr := []) (wc := [(h0, .inr (5, [.int th, .int 0, .ref a2, .ref a3, .ref a4, .ref a5, .ref a6, .ref a7, .ref a8, .ref a9, .ref a10, .ref a11, .ref a12, .ref a13, .ref a14, .ref a15, .ref a16, .ref a17, .ref a18, .ref a19, .ref a20, .ref a21, .ref a22, .ref a23, .int 0, .int 0, .int 0, .int 0, .int 0, .int 0, .int 0, .ref a31]))]) [0] [] (va_runV (As := [.int p0, .int p1]) (rest := []) ⟨hx, hb, hml, hown, hts⟩ (c_X5_make l D cI cZ cJ cG H.size h0 a2 a3 a4 a5 a6 a7 a8 a9 a10 a11 a12 a13 a14 a15 a16 a17 a18 a19 a20 a21 a22 a23 a31 th 0 0 p0 p1) (cwV 2 hts (pl_V (pl_m 570 (by decide +kernel)) (pl_m 571 (by decide +kernel)) (pl_m 572 (by decide +kernel)) (pl_m 5 (by decide +kernel)) (pl_m 573 (by decide +kernel))) rfl rfl rfl (by decide +kernel) ⟨(Nat.le_of_ble_eq_true rfl), (Nat.le_of_ble_eq_true rfl)⟩) ⟨pn_M_blind, va_recv hK hPc (ci := 5) (q0 := 0) rfl rfl, (pn_M_at hPc hDc hK)⟩ rfl rfl hl.1 rfl (lv_room (Nat.le_of_ble_eq_true rfl)) dX5_runNow_23 ⟨(Nat.le_of_ble_eq_true rfl), (Nat.le_of_ble_eq_true rfl)⟩) hS hA hP hD rfl rfl (by decide) (by decide) (fun r_1 u_1 H locs hw hP hD hS => ?_)
  have hP : va_P D vwCl [(h0, .inr (5, [.int th, .int 0, .ref a2, .ref a3, .ref a4, .ref a5, .ref a6, .ref a7, .ref a8, .ref a9, .ref a10, .ref a11, .ref a12, .ref a13, .ref a14, .ref a15, .ref a16, .ref a17, .ref a18, .ref a19, .ref a20, .ref a21, .ref a22, .ref a23, .int 0, .int 0, .int 0, .int 0, .int 0, .int 1, .int 0, .ref a31]))] H := hP
  have hD : va_D (A) [(h0, .inr (5, [.int th, .int 0, .ref a2, .ref a3, .ref a4, .ref a5, .ref a6, .ref a7, .ref a8, .ref a9, .ref a10, .ref a11, .ref a12, .ref a13, .ref a14, .ref a15, .ref a16, .ref a17, .ref a18, .ref a19, .ref a20, .ref a21, .ref a22, .ref a23, .int 0, .int 0, .int 0, .int 0, .int 0, .int 1, .int 0, .ref a31]))] := hD
  obtain ⟨rfl, hw⟩ := hw
  try simp only [Int32.reduceToInt] at hw
  refine lv_istore_n (lv' := [(3, .int 0), (0, .ref h0), (1, .int p0), (2, .int p1)]) hx hb dX5_runNow_26 rfl hl (by decide) rfl (fun ls hl => ?_)
  refine lv_aload_n hx hb dX5_runNow_27 rfl (lv_at hl 1 rfl) ?_
  refine lv_dup hx hb dX5_runNow_28 rfl ?_
  refine va_get (D := D) (ci := 5) (v := .int 0) (C := RX5) (T := TX5) (N := 32) hx hb hts inlX5 hown hK hP 0 rfl rfl 25 (by decide) (hts (.fieldLink RX5 102 "VtableTownModel" "runs" "I") (pl_m 568 (by decide +kernel))) (fun _ h9 => h9) rfl dX5_runNow_29 ?_
  refine lv_iconst (v := 1) hx hb dX5_runNow_32 (by decide) ?_
  refine lv_iadd hx hb dX5_runNow_33 ?_
  refine lv_topi (fun f_2 ef_2 => ?_)
  have ef_2 : f_2 = 1 := by rw [ef_2]; decide +kernel
  subst ef_2
  refine va_put (D := D) (ci := 5) (v := .int 1) (ty := .int) (C := RX5) (T := TX5) (N := 32) hx hb hts inlX5 tyX5 tyX5_ok nmX5 hown hK hP hD hS 0 rfl rfl 25 (by decide) (hts (.fieldLink RX5 102 "VtableTownModel" "runs" "I") (pl_m 568 (by decide +kernel))) (fun _ h9 => h9) rfl (by decide +kernel) rfl rfl (Nat.le_of_ble_eq_true rfl) dX5_runNow_34 (fun H locs hP hD hS => ?_)
  have hP : va_P D vwCl [(h0, .inr (5, [.int th, .int 0, .ref a2, .ref a3, .ref a4, .ref a5, .ref a6, .ref a7, .ref a8, .ref a9, .ref a10, .ref a11, .ref a12, .ref a13, .ref a14, .ref a15, .ref a16, .ref a17, .ref a18, .ref a19, .ref a20, .ref a21, .ref a22, .ref a23, .int 0, .int 1, .int 0, .int 0, .int 0, .int 1, .int 0, .ref a31]))] H := hP
  have hD : va_D (A) [(h0, .inr (5, [.int th, .int 0, .ref a2, .ref a3, .ref a4, .ref a5, .ref a6, .ref a7, .ref a8, .ref a9, .ref a10, .ref a11, .ref a12, .ref a13, .ref a14, .ref a15, .ref a16, .ref a17, .ref a18, .ref a19, .ref a20, .ref a21, .ref a22, .ref a23, .int 0, .int 1, .int 0, .int 0, .int 0, .int 1, .int 0, .ref a31]))] := hD
  refine lv_aload_n hx hb dX5_runNow_37 rfl (lv_at hl 1 rfl) ?_
  refine lv_dup hx hb dX5_runNow_38 rfl ?_
  refine va_get (D := D) (ci := 5) (v := .int 0) (C := RX5) (T := TX5) (N := 32) hx hb hts inlX5 hown hK hP 0 rfl rfl 26 (by decide) (hts (.fieldLink RX5 105 "VtableTownModel" "allCosts" "I") (pl_m 569 (by decide +kernel))) (fun _ h9 => h9) rfl dX5_runNow_39 ?_
  refine lv_aload_n hx hb dX5_runNow_42 rfl (lv_at hl 1 rfl) ?_
  refine va_get (D := D) (ci := 5) (v := .int 0) (C := RX5) (T := TX5) (N := 32) hx hb hts inlX5 hown hK hP 0 rfl rfl 27 (by decide) (hts (.fieldLink RX5 185 "VtableTownModel" "cost" "I") (pl_m 403 (by decide +kernel))) (fun _ h9 => h9) rfl dX5_runNow_43 ?_
  refine lv_iadd hx hb dX5_runNow_46 ?_
  refine lv_topi (fun f_3 ef_3 => ?_)
  have ef_3 : f_3 = 0 := by rw [ef_3]; decide +kernel
  subst ef_3
  refine va_put (D := D) (ci := 5) (v := .int 0) (ty := .int) (C := RX5) (T := TX5) (N := 32) hx hb hts inlX5 tyX5 tyX5_ok nmX5 hown hK hP hD hS 0 rfl rfl 26 (by decide) (hts (.fieldLink RX5 105 "VtableTownModel" "allCosts" "I") (pl_m 569 (by decide +kernel))) (fun _ h9 => h9) rfl (by decide +kernel) rfl rfl (Nat.le_of_ble_eq_true rfl) dX5_runNow_47 (fun H locs hP hD hS => ?_)
  have hP : va_P D vwCl [(h0, .inr (5, [.int th, .int 0, .ref a2, .ref a3, .ref a4, .ref a5, .ref a6, .ref a7, .ref a8, .ref a9, .ref a10, .ref a11, .ref a12, .ref a13, .ref a14, .ref a15, .ref a16, .ref a17, .ref a18, .ref a19, .ref a20, .ref a21, .ref a22, .ref a23, .int 0, .int 1, .int 0, .int 0, .int 0, .int 1, .int 0, .ref a31]))] H := hP
  have hD : va_D (A) [(h0, .inr (5, [.int th, .int 0, .ref a2, .ref a3, .ref a4, .ref a5, .ref a6, .ref a7, .ref a8, .ref a9, .ref a10, .ref a11, .ref a12, .ref a13, .ref a14, .ref a15, .ref a16, .ref a17, .ref a18, .ref a19, .ref a20, .ref a21, .ref a22, .ref a23, .int 0, .int 1, .int 0, .int 0, .int 0, .int 1, .int 0, .ref a31]))] := hD
  refine lv_aload_n hx hb dX5_runNow_50 rfl (lv_at hl 1 rfl) ?_
  refine va_get (D := D) (ci := 5) (v := .int 1) (C := RX5) (T := TX5) (N := 32) hx hb hts inlX5 hown hK hP 0 rfl rfl 29 (by decide) (hts (.fieldLink RX5 172 "VtableTownModel" "failed" "I") (pl_m 567 (by decide +kernel))) (fun _ h9 => h9) rfl dX5_runNow_51 ?_
  refine lv_if_ne (tgt := 61) hx hb dX5_runNow_54 (by decide) (fun _ => ?_) (fun h9 => absurd h9 (by decide))
  refine lv_sipush (v := (-10000)) hx hb dX5_runNow_61 (by decide) ?_
  refine lv_aload_n hx hb dX5_runNow_64 rfl (lv_at hl 1 rfl) ?_
  refine va_get (D := D) (ci := 5) (v := .int 1) (C := RX5) (T := TX5) (N := 32) hx hb hts inlX5 hown hK hP 0 rfl rfl 29 (by decide) (hts (.fieldLink RX5 172 "VtableTownModel" "failed" "I") (pl_m 567 (by decide +kernel))) (fun _ h9 => h9) rfl dX5_runNow_65 ?_
  refine lv_isub hx hb dX5_runNow_68 ?_
  refine lv_topi (fun f_4 ef_4 => ?_)
  have ef_4 : f_4 = (-10001) := by rw [ef_4]; decide +kernel
  subst ef_4
  have hP9 := hP.sub (ws' := [(h0, .inr (5, [.int th, .int 0, .ref a2, .ref a3, .ref a4, .ref a5, .ref a6, .ref a7, .ref a8, .ref a9, .ref a10, .ref a11, .ref a12, .ref a13, .ref a14, .ref a15, .ref a16, .ref a17, .ref a18, .ref a19, .ref a20, .ref a21, .ref a22, .ref a23, .int 0, .int 1, .int 0, .int 0, .int 0, .int 1, .int 0, .ref a31]))]) [0] rfl
  have hD9 := hD.sub (ws' := [(h0, .inr (5, [.int th, .int 0, .ref a2, .ref a3, .ref a4, .ref a5, .ref a6, .ref a7, .ref a8, .ref a9, .ref a10, .ref a11, .ref a12, .ref a13, .ref a14, .ref a15, .ref a16, .ref a17, .ref a18, .ref a19, .ref a20, .ref a21, .ref a22, .ref a23, .int 0, .int 1, .int 0, .int 0, .int 0, .int 1, .int 0, .ref a31]))]) [0] (by decide) rfl
  exact W.iret (v := (-10001)) hx hb hr (fun tz_ ht hW => ⟨⟨(-10001), (), rfl, ⟨rfl, (by first | exact trivial | omega | (simp only [Int32.reduceToInt] at *; omega) | decide)⟩, (by rw [ht]; exact hP9), hD9⟩, hS.F ht⟩) hS.2.2 dX5_runNow_69
set_option maxHeartbeats 4000000 in
set_option maxRecDepth 100000 in
theorem c_X5_runNow_1 (l : Launch) (D : va_G) (cI cZ cJ cG : ClassId) (sz : Nat) (h0 : Nat) (a2 : Nat) (a3 : Nat) (a4 : Nat) (a5 : Nat) (a6 : Nat) (a7 : Nat) (a8 : Nat) (a9 : Nat) (a10 : Nat) (a11 : Nat) (a12 : Nat) (a13 : Nat) (a14 : Nat) (a15 : Nat) (a16 : Nat) (a17 : Nat) (a18 : Nat) (a19 : Nat) (a20 : Nat) (a21 : Nat) (a22 : Nat) (a23 : Nat) (a31 : Nat) (th : Int32) (fl : Int32) (p0 : Int32) (p1 : Int32) : Met l yX5_runNow (pl_h yX5_runNow cX5_runNow 4 (some .int)) ({ frames := 5, cells := 0, slots := 0, locals := 114 }) (va_Pc [.ref h0, .int p0, .int p1] (pn_M D (pn_Y cI cZ cJ cG) [(h0, .inr (5, [.int th, .int 0, .ref a2, .ref a3, .ref a4, .ref a5, .ref a6, .ref a7, .ref a8, .ref a9, .ref a10, .ref a11, .ref a12, .ref a13, .ref a14, .ref a15, .ref a16, .ref a17, .ref a18, .ref a19, .ref a20, .ref a21, .ref a22, .ref a23, .int 0, .int 1, .int 0, .int 0, .int 0, .int fl, .int 0, .ref a31]))] sz)) (va_Qi (fun (r : Int32) (u : Unit) => (r = (-10001) ∧ True)) (fun u tz_ => va_P D vwCl [(h0, .inr (5, [.int th, .int 0, .ref a2, .ref a3, .ref a4, .ref a5, .ref a6, .ref a7, .ref a8, .ref a9, .ref a10, .ref a11, .ref a12, .ref a13, .ref a14, .ref a15, .ref a16, .ref a17, .ref a18, .ref a19, .ref a20, .ref a21, .ref a22, .ref a23, .int 0, .int 2, .int 0, .int 0, .int 0, .int 1, .int 0, .ref a31]))] tz_.heap ∧ va_D (va_A [(h0, .inr (5, [.int th, .int 0, .ref a2, .ref a3, .ref a4, .ref a5, .ref a6, .ref a7, .ref a8, .ref a9, .ref a10, .ref a11, .ref a12, .ref a13, .ref a14, .ref a15, .ref a16, .ref a17, .ref a18, .ref a19, .ref a20, .ref a21, .ref a22, .ref a23, .int 0, .int 1, .int 0, .int 0, .int 0, .int fl, .int 0, .ref a31]))] sz) [(h0, .inr (5, [.int th, .int 0, .ref a2, .ref a3, .ref a4, .ref a5, .ref a6, .ref a7, .ref a8, .ref a9, .ref a10, .ref a11, .ref a12, .ref a13, .ref a14, .ref a15, .ref a16, .ref a17, .ref a18, .ref a19, .ref a20, .ref a21, .ref a22, .ref a23, .int 0, .int 2, .int 0, .int 0, .int 0, .int 1, .int 0, .ref a31]))]) (va_A [(h0, .inr (5, [.int th, .int 0, .ref a2, .ref a3, .ref a4, .ref a5, .ref a6, .ref a7, .ref a8, .ref a9, .ref a10, .ref a11, .ref a12, .ref a13, .ref a14, .ref a15, .ref a16, .ref a17, .ref a18, .ref a19, .ref a20, .ref a21, .ref a22, .ref a23, .int 0, .int 1, .int 0, .int 0, .int 0, .int fl, .int 0, .ref a31]))] sz)) 0 0 (va_A [(h0, .inr (5, [.int th, .int 0, .ref a2, .ref a3, .ref a4, .ref a5, .ref a6, .ref a7, .ref a8, .ref a9, .ref a10, .ref a11, .ref a12, .ref a13, .ref a14, .ref a15, .ref a16, .ref a17, .ref a18, .ref a19, .ref a20, .ref a21, .ref a22, .ref a23, .int 0, .int 1, .int 0, .int 0, .int 0, .int fl, .int 0, .ref a31]))] sz) := by
  refine Met.ofW (cc := cX5_runNow) (maxL := 4) (ret := (some .int)) (by decide) rfl ?_
  intro p e s m args below meth c s₁ B hml hv
  obtain ⟨rfl, hsz, hP, hK, hD0⟩ := hv
  have hx := B.exec
  have hb := B.bytes
  have hr := B.returns
  have hts0 := atoms_spec (ws := pl_h yX5_runNow cX5_runNow 4 (some .int)) B.pre
  have hts := fun (w : Cond) (h : w ∈ pw_all) => hts0 w (List.mem_cons_of_mem _ h)
  have hown : s.vm.findClass RX5 = some m.cls := findClass_of_methodNamed B.named
  have hlocks := B.notSynchronized
  subst hsz
  have hD := hD0.self (sz := s.heap.size)
  generalize hAe : va_A [(h0, .inr (5, [.int th, .int 0, .ref a2, .ref a3, .ref a4, .ref a5, .ref a6, .ref a7, .ref a8, .ref a9, .ref a10, .ref a11, .ref a12, .ref a13, .ref a14, .ref a15, .ref a16, .ref a17, .ref a18, .ref a19, .ref a20, .ref a21, .ref a22, .ref a23, .int 0, .int 1, .int 0, .int 0, .int 0, .int fl, .int 0, .ref a31]))] s.heap.size = A at hD ⊢
  have hA : ∀ q : Nat, s.heap.size ≤ q → A q := fun q h => by rw [← hAe]; exact Or.inr h
  have hS : va_S A s.heap s.heap [] := va_S.rf
  have hl := lv_entry ([.ref h0, .int p0, .int p1]) (n := 4) (Nat.le_of_ble_eq_true rfl)
  rw [lg_entry_eq]
  generalize (lg_sl ([.ref h0, .int p0, .int p1]) ++ List.replicate (4 - (lg_sl ([.ref h0, .int p0, .int p1])).length) Slot.unset).toArray = ls at hl ⊢
  have hl : lv_has ls 4 [(0, .ref h0), (1, .int p0), (2, .int p1)] := hl
  refine lv_aload_n hx hb dX5_runNow_0 rfl (lv_at hl 0 rfl) ?_
  refine lv_iconst (v := 0) hx hb dX5_runNow_1 (by decide) ?_
  refine va_put (D := D) (ci := 5) (v := .int 0) (ty := .int) (C := RX5) (T := TX5) (N := 32) hx hb hts inlX5 tyX5 tyX5_ok nmX5 hown hK hP hD hS 0 rfl rfl 27 (by decide) (hts (.fieldLink RX5 185 "VtableTownModel" "cost" "I") (pl_m 403 (by decide +kernel))) (fun _ h9 => h9) rfl (by decide +kernel) rfl rfl (Nat.le_of_ble_eq_true rfl) dX5_runNow_2 (fun H locs hP hD hS => ?_)
  have hP : va_P D vwCl [(h0, .inr (5, [.int th, .int 0, .ref a2, .ref a3, .ref a4, .ref a5, .ref a6, .ref a7, .ref a8, .ref a9, .ref a10, .ref a11, .ref a12, .ref a13, .ref a14, .ref a15, .ref a16, .ref a17, .ref a18, .ref a19, .ref a20, .ref a21, .ref a22, .ref a23, .int 0, .int 1, .int 0, .int 0, .int 0, .int fl, .int 0, .ref a31]))] H := hP
  have hD : va_D (A) [(h0, .inr (5, [.int th, .int 0, .ref a2, .ref a3, .ref a4, .ref a5, .ref a6, .ref a7, .ref a8, .ref a9, .ref a10, .ref a11, .ref a12, .ref a13, .ref a14, .ref a15, .ref a16, .ref a17, .ref a18, .ref a19, .ref a20, .ref a21, .ref a22, .ref a23, .int 0, .int 1, .int 0, .int 0, .int 0, .int fl, .int 0, .ref a31]))] := hD
  refine lv_aload_n hx hb dX5_runNow_5 rfl (lv_at hl 0 rfl) ?_
  refine lv_iconst (v := 0) hx hb dX5_runNow_6 (by decide) ?_
  refine va_put (D := D) (ci := 5) (v := .int 0) (ty := .int) (C := RX5) (T := TX5) (N := 32) hx hb hts inlX5 tyX5 tyX5_ok nmX5 hown hK hP hD hS 0 rfl rfl 28 (by decide) (hts (.fieldLink RX5 191 "VtableTownModel" "steps" "I") (pl_m 566 (by decide +kernel))) (fun _ h9 => h9) rfl (by decide +kernel) rfl rfl (Nat.le_of_ble_eq_true rfl) dX5_runNow_7 (fun H locs hP hD hS => ?_)
  have hP : va_P D vwCl [(h0, .inr (5, [.int th, .int 0, .ref a2, .ref a3, .ref a4, .ref a5, .ref a6, .ref a7, .ref a8, .ref a9, .ref a10, .ref a11, .ref a12, .ref a13, .ref a14, .ref a15, .ref a16, .ref a17, .ref a18, .ref a19, .ref a20, .ref a21, .ref a22, .ref a23, .int 0, .int 1, .int 0, .int 0, .int 0, .int fl, .int 0, .ref a31]))] H := hP
  have hD : va_D (A) [(h0, .inr (5, [.int th, .int 0, .ref a2, .ref a3, .ref a4, .ref a5, .ref a6, .ref a7, .ref a8, .ref a9, .ref a10, .ref a11, .ref a12, .ref a13, .ref a14, .ref a15, .ref a16, .ref a17, .ref a18, .ref a19, .ref a20, .ref a21, .ref a22, .ref a23, .int 0, .int 1, .int 0, .int 0, .int 0, .int fl, .int 0, .ref a31]))] := hD
  refine lv_aload_n hx hb dX5_runNow_10 rfl (lv_at hl 0 rfl) ?_
  refine lv_iconst (v := 0) hx hb dX5_runNow_11 (by decide) ?_
  refine va_put (D := D) (ci := 5) (v := .int 0) (ty := .int) (C := RX5) (T := TX5) (N := 32) hx hb hts inlX5 tyX5 tyX5_ok nmX5 hown hK hP hD hS 0 rfl rfl 29 (by decide) (hts (.fieldLink RX5 172 "VtableTownModel" "failed" "I") (pl_m 567 (by decide +kernel))) (fun _ h9 => h9) rfl (by decide +kernel) rfl rfl (Nat.le_of_ble_eq_true rfl) dX5_runNow_12 (fun H locs hP hD hS => ?_)
  have hP : va_P D vwCl [(h0, .inr (5, [.int th, .int 0, .ref a2, .ref a3, .ref a4, .ref a5, .ref a6, .ref a7, .ref a8, .ref a9, .ref a10, .ref a11, .ref a12, .ref a13, .ref a14, .ref a15, .ref a16, .ref a17, .ref a18, .ref a19, .ref a20, .ref a21, .ref a22, .ref a23, .int 0, .int 1, .int 0, .int 0, .int 0, .int 0, .int 0, .ref a31]))] H := hP
  have hD : va_D (A) [(h0, .inr (5, [.int th, .int 0, .ref a2, .ref a3, .ref a4, .ref a5, .ref a6, .ref a7, .ref a8, .ref a9, .ref a10, .ref a11, .ref a12, .ref a13, .ref a14, .ref a15, .ref a16, .ref a17, .ref a18, .ref a19, .ref a20, .ref a21, .ref a22, .ref a23, .int 0, .int 1, .int 0, .int 0, .int 0, .int 0, .int 0, .ref a31]))] := hD
  refine lv_aload_n hx hb dX5_runNow_15 rfl (lv_at hl 0 rfl) ?_
  refine lv_iconst (v := 0) hx hb dX5_runNow_16 (by decide) ?_
  refine va_put (D := D) (ci := 5) (v := .int 0) (ty := .int) (C := RX5) (T := TX5) (N := 32) hx hb hts inlX5 tyX5 tyX5_ok nmX5 hown hK hP hD hS 0 rfl rfl 30 (by decide) (hts (.fieldLink RX5 188 "VtableTownModel" "frames" "I") (pl_m 413 (by decide +kernel))) (fun _ h9 => h9) rfl (by decide +kernel) rfl rfl (Nat.le_of_ble_eq_true rfl) dX5_runNow_17 (fun H locs hP hD hS => ?_)
  have hP : va_P D vwCl [(h0, .inr (5, [.int th, .int 0, .ref a2, .ref a3, .ref a4, .ref a5, .ref a6, .ref a7, .ref a8, .ref a9, .ref a10, .ref a11, .ref a12, .ref a13, .ref a14, .ref a15, .ref a16, .ref a17, .ref a18, .ref a19, .ref a20, .ref a21, .ref a22, .ref a23, .int 0, .int 1, .int 0, .int 0, .int 0, .int 0, .int 0, .ref a31]))] H := hP
  have hD : va_D (A) [(h0, .inr (5, [.int th, .int 0, .ref a2, .ref a3, .ref a4, .ref a5, .ref a6, .ref a7, .ref a8, .ref a9, .ref a10, .ref a11, .ref a12, .ref a13, .ref a14, .ref a15, .ref a16, .ref a17, .ref a18, .ref a19, .ref a20, .ref a21, .ref a22, .ref a23, .int 0, .int 1, .int 0, .int 0, .int 0, .int 0, .int 0, .ref a31]))] := hD
  refine lv_aload_n hx hb dX5_runNow_20 rfl (lv_at hl 0 rfl) ?_
  refine lv_iload_n hx hb dX5_runNow_21 rfl (lv_at hl 1 rfl) ?_
  refine lv_iload_n hx hb dX5_runNow_22 rfl (lv_at hl 2 rfl) ?_
  have hPc := hP.sub (ws' := [(h0, .inr (5, [.int th, .int 0, .ref a2, .ref a3, .ref a4, .ref a5, .ref a6, .ref a7, .ref a8, .ref a9, .ref a10, .ref a11, .ref a12, .ref a13, .ref a14, .ref a15, .ref a16, .ref a17, .ref a18, .ref a19, .ref a20, .ref a21, .ref a22, .ref a23, .int 0, .int 1, .int 0, .int 0, .int 0, .int 0, .int 0, .ref a31]))]) [0] rfl
  have hDc := hD.sub (ws' := [(h0, .inr (5, [.int th, .int 0, .ref a2, .ref a3, .ref a4, .ref a5, .ref a6, .ref a7, .ref a8, .ref a9, .ref a10, .ref a11, .ref a12, .ref a13, .ref a14, .ref a15, .ref a16, .ref a17, .ref a18, .ref a19, .ref a20, .ref a21, .ref a22, .ref a23, .int 0, .int 1, .int 0, .int 0, .int 0, .int 0, .int 0, .ref a31]))]) [0] (by decide) rfl
  refine pn_mi (w1 := fun (u : Unit) => [(h0, .inr (5, [.int th, .int 0, .ref a2, .ref a3, .ref a4, .ref a5, .ref a6, .ref a7, .ref a8, .ref a9, .ref a10, .ref a11, .ref a12, .ref a13, .ref a14, .ref a15, .ref a16, .ref a17, .ref a18, .ref a19, .ref a20, .ref a21, .ref a22, .ref a23, .int 0, .int 1, .int 0, .int 0, .int 0, .int 1, .int 0, .ref a31]))]) (wr := []) (wc := [(h0, .inr (5, [.int th, .int 0, .ref a2, .ref a3, .ref a4, .ref a5, .ref a6, .ref a7, .ref a8, .ref a9, .ref a10, .ref a11, .ref a12, .ref a13, .ref a14, .ref a15, .ref a16, .ref a17, .ref a18, .ref a19, .ref a20, .ref a21, .ref a22, .ref a23, .int 0, .int 1, .int 0, .int 0, .int 0, .int 0, .int 0, .ref a31]))]) [0] [] (va_runV (As := [.int p0, .int p1]) (rest := []) ⟨hx, hb, hml, hown, hts⟩ (c_X5_make l D cI cZ cJ cG H.size h0 a2 a3 a4 a5 a6 a7 a8 a9 a10 a11 a12 a13 a14 a15 a16 a17 a18 a19 a20 a21 a22 a23 a31 th 0 1 p0 p1) (cwV 2 hts (pl_V (pl_m 570 (by decide +kernel)) (pl_m 571 (by decide +kernel)) (pl_m 572 (by decide +kernel)) (pl_m 5 (by decide +kernel)) (pl_m 573 (by decide +kernel))) rfl rfl rfl (by decide +kernel) ⟨(Nat.le_of_ble_eq_true rfl), (Nat.le_of_ble_eq_true rfl)⟩) ⟨pn_M_blind, va_recv hK hPc (ci := 5) (q0 := 0) rfl rfl, (pn_M_at hPc hDc hK)⟩ rfl rfl hl.1 rfl (lv_room (Nat.le_of_ble_eq_true rfl)) dX5_runNow_23 ⟨(Nat.le_of_ble_eq_true rfl), (Nat.le_of_ble_eq_true rfl)⟩) hS hA hP hD rfl rfl (by decide) (by decide) (fun r_1 u_1 H locs hw hP hD hS => ?_)
  have hP : va_P D vwCl [(h0, .inr (5, [.int th, .int 0, .ref a2, .ref a3, .ref a4, .ref a5, .ref a6, .ref a7, .ref a8, .ref a9, .ref a10, .ref a11, .ref a12, .ref a13, .ref a14, .ref a15, .ref a16, .ref a17, .ref a18, .ref a19, .ref a20, .ref a21, .ref a22, .ref a23, .int 0, .int 1, .int 0, .int 0, .int 0, .int 1, .int 0, .ref a31]))] H := hP
  have hD : va_D (A) [(h0, .inr (5, [.int th, .int 0, .ref a2, .ref a3, .ref a4, .ref a5, .ref a6, .ref a7, .ref a8, .ref a9, .ref a10, .ref a11, .ref a12, .ref a13, .ref a14, .ref a15, .ref a16, .ref a17, .ref a18, .ref a19, .ref a20, .ref a21, .ref a22, .ref a23, .int 0, .int 1, .int 0, .int 0, .int 0, .int 1, .int 0, .ref a31]))] := hD
  obtain ⟨rfl, hw⟩ := hw
  try simp only [Int32.reduceToInt] at hw
  refine lv_istore_n (lv' := [(3, .int 0), (0, .ref h0), (1, .int p0), (2, .int p1)]) hx hb dX5_runNow_26 rfl hl (by decide) rfl (fun ls hl => ?_)
  refine lv_aload_n hx hb dX5_runNow_27 rfl (lv_at hl 1 rfl) ?_
  refine lv_dup hx hb dX5_runNow_28 rfl ?_
  refine va_get (D := D) (ci := 5) (v := .int 1) (C := RX5) (T := TX5) (N := 32) hx hb hts inlX5 hown hK hP 0 rfl rfl 25 (by decide) (hts (.fieldLink RX5 102 "VtableTownModel" "runs" "I") (pl_m 568 (by decide +kernel))) (fun _ h9 => h9) rfl dX5_runNow_29 ?_
  refine lv_iconst (v := 1) hx hb dX5_runNow_32 (by decide) ?_
  refine lv_iadd hx hb dX5_runNow_33 ?_
  refine lv_topi (fun f_2 ef_2 => ?_)
  have ef_2 : f_2 = 2 := by rw [ef_2]; decide +kernel
  subst ef_2
  refine va_put (D := D) (ci := 5) (v := .int 2) (ty := .int) (C := RX5) (T := TX5) (N := 32) hx hb hts inlX5 tyX5 tyX5_ok nmX5 hown hK hP hD hS 0 rfl rfl 25 (by decide) (hts (.fieldLink RX5 102 "VtableTownModel" "runs" "I") (pl_m 568 (by decide +kernel))) (fun _ h9 => h9) rfl (by decide +kernel) rfl rfl (Nat.le_of_ble_eq_true rfl) dX5_runNow_34 (fun H locs hP hD hS => ?_)
  have hP : va_P D vwCl [(h0, .inr (5, [.int th, .int 0, .ref a2, .ref a3, .ref a4, .ref a5, .ref a6, .ref a7, .ref a8, .ref a9, .ref a10, .ref a11, .ref a12, .ref a13, .ref a14, .ref a15, .ref a16, .ref a17, .ref a18, .ref a19, .ref a20, .ref a21, .ref a22, .ref a23, .int 0, .int 2, .int 0, .int 0, .int 0, .int 1, .int 0, .ref a31]))] H := hP
  have hD : va_D (A) [(h0, .inr (5, [.int th, .int 0, .ref a2, .ref a3, .ref a4, .ref a5, .ref a6, .ref a7, .ref a8, .ref a9, .ref a10, .ref a11, .ref a12, .ref a13, .ref a14, .ref a15, .ref a16, .ref a17, .ref a18, .ref a19, .ref a20, .ref a21, .ref a22, .ref a23, .int 0, .int 2, .int 0, .int 0, .int 0, .int 1, .int 0, .ref a31]))] := hD
  refine lv_aload_n hx hb dX5_runNow_37 rfl (lv_at hl 1 rfl) ?_
  refine lv_dup hx hb dX5_runNow_38 rfl ?_
  refine va_get (D := D) (ci := 5) (v := .int 0) (C := RX5) (T := TX5) (N := 32) hx hb hts inlX5 hown hK hP 0 rfl rfl 26 (by decide) (hts (.fieldLink RX5 105 "VtableTownModel" "allCosts" "I") (pl_m 569 (by decide +kernel))) (fun _ h9 => h9) rfl dX5_runNow_39 ?_
  refine lv_aload_n hx hb dX5_runNow_42 rfl (lv_at hl 1 rfl) ?_
  refine va_get (D := D) (ci := 5) (v := .int 0) (C := RX5) (T := TX5) (N := 32) hx hb hts inlX5 hown hK hP 0 rfl rfl 27 (by decide) (hts (.fieldLink RX5 185 "VtableTownModel" "cost" "I") (pl_m 403 (by decide +kernel))) (fun _ h9 => h9) rfl dX5_runNow_43 ?_
  refine lv_iadd hx hb dX5_runNow_46 ?_
  refine lv_topi (fun f_3 ef_3 => ?_)
  have ef_3 : f_3 = 0 := by rw [ef_3]; decide +kernel
  subst ef_3
  refine va_put (D := D) (ci := 5) (v := .int 0) (ty := .int) (C := RX5) (T := TX5) (N := 32) hx hb hts inlX5 tyX5 tyX5_ok nmX5 hown hK hP hD hS 0 rfl rfl 26 (by decide) (hts (.fieldLink RX5 105 "VtableTownModel" "allCosts" "I") (pl_m 569 (by decide +kernel))) (fun _ h9 => h9) rfl (by decide +kernel) rfl rfl (Nat.le_of_ble_eq_true rfl) dX5_runNow_47 (fun H locs hP hD hS => ?_)
  have hP : va_P D vwCl [(h0, .inr (5, [.int th, .int 0, .ref a2, .ref a3, .ref a4, .ref a5, .ref a6, .ref a7, .ref a8, .ref a9, .ref a10, .ref a11, .ref a12, .ref a13, .ref a14, .ref a15, .ref a16, .ref a17, .ref a18, .ref a19, .ref a20, .ref a21, .ref a22, .ref a23, .int 0, .int 2, .int 0, .int 0, .int 0, .int 1, .int 0, .ref a31]))] H := hP
  have hD : va_D (A) [(h0, .inr (5, [.int th, .int 0, .ref a2, .ref a3, .ref a4, .ref a5, .ref a6, .ref a7, .ref a8, .ref a9, .ref a10, .ref a11, .ref a12, .ref a13, .ref a14, .ref a15, .ref a16, .ref a17, .ref a18, .ref a19, .ref a20, .ref a21, .ref a22, .ref a23, .int 0, .int 2, .int 0, .int 0, .int 0, .int 1, .int 0, .ref a31]))] := hD
  refine lv_aload_n hx hb dX5_runNow_50 rfl (lv_at hl 1 rfl) ?_
  refine va_get (D := D) (ci := 5) (v := .int 1) (C := RX5) (T := TX5) (N := 32) hx hb hts inlX5 hown hK hP 0 rfl rfl 29 (by decide) (hts (.fieldLink RX5 172 "VtableTownModel" "failed" "I") (pl_m 567 (by decide +kernel))) (fun _ h9 => h9) rfl dX5_runNow_51 ?_
  refine lv_if_ne (tgt := 61) hx hb dX5_runNow_54 (by decide) (fun _ => ?_) (fun h9 => absurd h9 (by decide))
  refine lv_sipush (v := (-10000)) hx hb dX5_runNow_61 (by decide) ?_
  refine lv_aload_n hx hb dX5_runNow_64 rfl (lv_at hl 1 rfl) ?_
  refine va_get (D := D) (ci := 5) (v := .int 1) (C := RX5) (T := TX5) (N := 32) hx hb hts inlX5 hown hK hP 0 rfl rfl 29 (by decide) (hts (.fieldLink RX5 172 "VtableTownModel" "failed" "I") (pl_m 567 (by decide +kernel))) (fun _ h9 => h9) rfl dX5_runNow_65 ?_
  refine lv_isub hx hb dX5_runNow_68 ?_
  refine lv_topi (fun f_4 ef_4 => ?_)
  have ef_4 : f_4 = (-10001) := by rw [ef_4]; decide +kernel
  subst ef_4
  have hP9 := hP.sub (ws' := [(h0, .inr (5, [.int th, .int 0, .ref a2, .ref a3, .ref a4, .ref a5, .ref a6, .ref a7, .ref a8, .ref a9, .ref a10, .ref a11, .ref a12, .ref a13, .ref a14, .ref a15, .ref a16, .ref a17, .ref a18, .ref a19, .ref a20, .ref a21, .ref a22, .ref a23, .int 0, .int 2, .int 0, .int 0, .int 0, .int 1, .int 0, .ref a31]))]) [0] rfl
  have hD9 := hD.sub (ws' := [(h0, .inr (5, [.int th, .int 0, .ref a2, .ref a3, .ref a4, .ref a5, .ref a6, .ref a7, .ref a8, .ref a9, .ref a10, .ref a11, .ref a12, .ref a13, .ref a14, .ref a15, .ref a16, .ref a17, .ref a18, .ref a19, .ref a20, .ref a21, .ref a22, .ref a23, .int 0, .int 2, .int 0, .int 0, .int 0, .int 1, .int 0, .ref a31]))]) [0] (by decide) rfl
  exact W.iret (v := (-10001)) hx hb hr (fun tz_ ht hW => ⟨⟨(-10001), (), rfl, ⟨rfl, (by first | exact trivial | omega | (simp only [Int32.reduceToInt] at *; omega) | decide)⟩, (by rw [ht]; exact hP9), hD9⟩, hS.F ht⟩) hS.2.2 dX5_runNow_69
set_option maxHeartbeats 4000000 in
set_option maxRecDepth 100000 in
theorem c_X5_run (l : Launch) (D : va_G) (cI cZ cJ cG : ClassId) (sz : Nat) (h0 : Nat) (a2 : Nat) (a3 : Nat) (a4 : Nat) (a5 : Nat) (a6 : Nat) (a7 : Nat) (a8 : Nat) (a9 : Nat) (a10 : Nat) (a11 : Nat) (a12 : Nat) (a13 : Nat) (a14 : Nat) (a15 : Nat) (a16 : Nat) (a17 : Nat) (a18 : Nat) (a19 : Nat) (a20 : Nat) (a21 : Nat) (a22 : Nat) (a23 : Nat) (a31 : Nat) (p0 : Int32) (p1 : Int32) : Met l yX5_run (pl_h yX5_run cX5_run 3 (some .int)) ({ frames := 6, cells := 0, slots := 0, locals := 137 }) (va_Pc [.ref h0, .int p0, .int p1] (pn_M D (pn_Y cI cZ cJ cG) [(h0, .inr (5, [.int 0, .int 0, .ref a2, .ref a3, .ref a4, .ref a5, .ref a6, .ref a7, .ref a8, .ref a9, .ref a10, .ref a11, .ref a12, .ref a13, .ref a14, .ref a15, .ref a16, .ref a17, .ref a18, .ref a19, .ref a20, .ref a21, .ref a22, .ref a23, .int 0, .int 0, .int 0, .int 0, .int 0, .int 0, .int 0, .ref a31]))] sz)) (va_Qi (fun (r : Int32) (u : Int32 × List Value) => (r = (-10001) ∧ u.1 = 0 ∧ (0 ≤ p0.toInt ∧ p0.toInt ≤ 11 ∧ 1 ≤ p1.toInt ∧ p1.toInt ≤ 5)) ∨ (r = 0 ∧ u.1 = 1 ∧ (p0.toInt < 0 ∨ 11 < p0.toInt ∨ p1.toInt < 1 ∨ 5 < p1.toInt))) (fun u tz_ => va_P D vwCl [(h0, .inr (5, (.int u.1 :: u.2)))] tz_.heap ∧ va_D (va_A [(h0, .inr (5, [.int 0, .int 0, .ref a2, .ref a3, .ref a4, .ref a5, .ref a6, .ref a7, .ref a8, .ref a9, .ref a10, .ref a11, .ref a12, .ref a13, .ref a14, .ref a15, .ref a16, .ref a17, .ref a18, .ref a19, .ref a20, .ref a21, .ref a22, .ref a23, .int 0, .int 0, .int 0, .int 0, .int 0, .int 0, .int 0, .ref a31]))] sz) [(h0, .inr (5, (.int u.1 :: u.2)))]) (va_A [(h0, .inr (5, [.int 0, .int 0, .ref a2, .ref a3, .ref a4, .ref a5, .ref a6, .ref a7, .ref a8, .ref a9, .ref a10, .ref a11, .ref a12, .ref a13, .ref a14, .ref a15, .ref a16, .ref a17, .ref a18, .ref a19, .ref a20, .ref a21, .ref a22, .ref a23, .int 0, .int 0, .int 0, .int 0, .int 0, .int 0, .int 0, .ref a31]))] sz)) 0 0 (va_A [(h0, .inr (5, [.int 0, .int 0, .ref a2, .ref a3, .ref a4, .ref a5, .ref a6, .ref a7, .ref a8, .ref a9, .ref a10, .ref a11, .ref a12, .ref a13, .ref a14, .ref a15, .ref a16, .ref a17, .ref a18, .ref a19, .ref a20, .ref a21, .ref a22, .ref a23, .int 0, .int 0, .int 0, .int 0, .int 0, .int 0, .int 0, .ref a31]))] sz) := by
  refine Met.ofW (cc := cX5_run) (maxL := 3) (ret := (some .int)) (by decide) rfl ?_
  intro p e s m args below meth c s₁ B hml hv
  obtain ⟨rfl, hsz, hP, hK, hD0⟩ := hv
  have hx := B.exec
  have hb := B.bytes
  have hr := B.returns
  have hts0 := atoms_spec (ws := pl_h yX5_run cX5_run 3 (some .int)) B.pre
  have hts := fun (w : Cond) (h : w ∈ pw_all) => hts0 w (List.mem_cons_of_mem _ h)
  have hown : s.vm.findClass RX5 = some m.cls := findClass_of_methodNamed B.named
  have hlocks := B.notSynchronized
  subst hsz
  have hD := hD0.self (sz := s.heap.size)
  generalize hAe : va_A [(h0, .inr (5, [.int 0, .int 0, .ref a2, .ref a3, .ref a4, .ref a5, .ref a6, .ref a7, .ref a8, .ref a9, .ref a10, .ref a11, .ref a12, .ref a13, .ref a14, .ref a15, .ref a16, .ref a17, .ref a18, .ref a19, .ref a20, .ref a21, .ref a22, .ref a23, .int 0, .int 0, .int 0, .int 0, .int 0, .int 0, .int 0, .ref a31]))] s.heap.size = A at hD ⊢
  have hA : ∀ q : Nat, s.heap.size ≤ q → A q := fun q h => by rw [← hAe]; exact Or.inr h
  have hS : va_S A s.heap s.heap [] := va_S.rf
  have hl := lv_entry ([.ref h0, .int p0, .int p1]) (n := 3) (Nat.le_of_ble_eq_true rfl)
  rw [lg_entry_eq]
  generalize (lg_sl ([.ref h0, .int p0, .int p1]) ++ List.replicate (3 - (lg_sl ([.ref h0, .int p0, .int p1])).length) Slot.unset).toArray = ls at hl ⊢
  have hl : lv_has ls 3 [(0, .ref h0), (1, .int p0), (2, .int p1)] := hl
  refine lv_aload_n hx hb dX5_run_0 rfl (lv_at hl 0 rfl) ?_
  refine lv_iconst (v := 0) hx hb dX5_run_1 (by decide) ?_
  refine va_put (D := D) (ci := 5) (v := .int 0) (ty := .int) (C := RX5) (T := TX5) (N := 32) hx hb hts inlX5 tyX5 tyX5_ok nmX5 hown hK hP hD hS 0 rfl rfl 0 (by decide) (hts (.fieldLink RX5 80 "VtableTownModel" "thrown" "I") (pl_m 137 (by decide +kernel))) (fun _ h9 => h9) rfl (by decide +kernel) rfl rfl (Nat.le_of_ble_eq_true rfl) dX5_run_2 (fun H locs hP hD hS => ?_)
  have hP : va_P D vwCl [(h0, .inr (5, [.int 0, .int 0, .ref a2, .ref a3, .ref a4, .ref a5, .ref a6, .ref a7, .ref a8, .ref a9, .ref a10, .ref a11, .ref a12, .ref a13, .ref a14, .ref a15, .ref a16, .ref a17, .ref a18, .ref a19, .ref a20, .ref a21, .ref a22, .ref a23, .int 0, .int 0, .int 0, .int 0, .int 0, .int 0, .int 0, .ref a31]))] H := hP
  have hD : va_D (A) [(h0, .inr (5, [.int 0, .int 0, .ref a2, .ref a3, .ref a4, .ref a5, .ref a6, .ref a7, .ref a8, .ref a9, .ref a10, .ref a11, .ref a12, .ref a13, .ref a14, .ref a15, .ref a16, .ref a17, .ref a18, .ref a19, .ref a20, .ref a21, .ref a22, .ref a23, .int 0, .int 0, .int 0, .int 0, .int 0, .int 0, .int 0, .ref a31]))] := hD
  refine lv_iload_n hx hb dX5_run_5 rfl (lv_at hl 1 rfl) ?_
  have hPc := hP.sub (ws' := []) [] rfl
  refine pn_ci (va_runS (As := [.int p0]) (rest := []) ⟨hx, hb, hml, hown, hts⟩ (c_X5_isAny l D cI cZ cJ cG H.size p0) (va_cwS 1 hts (pl_S (pl_m 262 (by decide +kernel)) (pl_m 263 (by decide +kernel)) (pl_m 5 (by decide +kernel)) (pl_m 264 (by decide +kernel))) rfl rfl rfl (by decide +kernel) ⟨(Nat.le_of_ble_eq_true rfl), (Nat.le_of_ble_eq_true rfl)⟩) ⟨pn_B_blind, (pn_B_at hPc hK)⟩ rfl rfl hl.1 rfl (lv_room (Nat.le_of_ble_eq_true rfl)) dX5_run_6 ⟨(Nat.le_of_ble_eq_true rfl), (Nat.le_of_ble_eq_true rfl)⟩) hS hA hP (fun r_1 H locs hw hP hS => ?_)
  have hP : va_P D vwCl [(h0, .inr (5, [.int 0, .int 0, .ref a2, .ref a3, .ref a4, .ref a5, .ref a6, .ref a7, .ref a8, .ref a9, .ref a10, .ref a11, .ref a12, .ref a13, .ref a14, .ref a15, .ref a16, .ref a17, .ref a18, .ref a19, .ref a20, .ref a21, .ref a22, .ref a23, .int 0, .int 0, .int 0, .int 0, .int 0, .int 0, .int 0, .ref a31]))] H := hP
  rcases hw with ⟨rfl, hw⟩ | ⟨rfl, hw⟩
  · try simp only [Int32.reduceToInt] at hw
    have hw_2 := hw
    refine lv_if_eq (tgt := 28) hx hb dX5_run_9 (by decide) (fun h9 => absurd h9 (by decide)) (fun _ => ?_)
    refine lv_iload_n hx hb dX5_run_12 rfl (lv_at hl 2 rfl) ?_
    have hPc := hP.sub (ws' := []) [] rfl
    refine pn_ci (va_runS (As := [.int p1]) (rest := []) ⟨hx, hb, hml, hown, hts⟩ (c_X5_isCalled l D cI cZ cJ cG H.size p1) (va_cwS 1 hts (pl_S (pl_m 259 (by decide +kernel)) (pl_m 260 (by decide +kernel)) (pl_m 5 (by decide +kernel)) (pl_m 261 (by decide +kernel))) rfl rfl rfl (by decide +kernel) ⟨(Nat.le_of_ble_eq_true rfl), (Nat.le_of_ble_eq_true rfl)⟩) ⟨pn_B_blind, (pn_B_at hPc hK)⟩ rfl rfl hl.1 rfl (lv_room (Nat.le_of_ble_eq_true rfl)) dX5_run_13 ⟨(Nat.le_of_ble_eq_true rfl), (Nat.le_of_ble_eq_true rfl)⟩) hS hA hP (fun r_3 H locs hw hP hS => ?_)
    have hP : va_P D vwCl [(h0, .inr (5, [.int 0, .int 0, .ref a2, .ref a3, .ref a4, .ref a5, .ref a6, .ref a7, .ref a8, .ref a9, .ref a10, .ref a11, .ref a12, .ref a13, .ref a14, .ref a15, .ref a16, .ref a17, .ref a18, .ref a19, .ref a20, .ref a21, .ref a22, .ref a23, .int 0, .int 0, .int 0, .int 0, .int 0, .int 0, .int 0, .ref a31]))] H := hP
    rcases hw with ⟨rfl, hw⟩ | ⟨rfl, hw⟩
    · try simp only [Int32.reduceToInt] at hw
      have hw_4 := hw
      refine lv_if_eq (tgt := 28) hx hb dX5_run_16 (by decide) (fun h9 => absurd h9 (by decide)) (fun _ => ?_)
      refine lv_aload_n hx hb dX5_run_19 rfl (lv_at hl 0 rfl) ?_
      refine lv_iload_n hx hb dX5_run_20 rfl (lv_at hl 1 rfl) ?_
      refine lv_iload_n hx hb dX5_run_21 rfl (lv_at hl 2 rfl) ?_
      have hPc := hP.sub (ws' := [(h0, .inr (5, [.int 0, .int 0, .ref a2, .ref a3, .ref a4, .ref a5, .ref a6, .ref a7, .ref a8, .ref a9, .ref a10, .ref a11, .ref a12, .ref a13, .ref a14, .ref a15, .ref a16, .ref a17, .ref a18, .ref a19, .ref a20, .ref a21, .ref a22, .ref a23, .int 0, .int 0, .int 0, .int 0, .int 0, .int 0, .int 0, .ref a31]))]) [0] rfl
      have hDc := hD.sub (ws' := [(h0, .inr (5, [.int 0, .int 0, .ref a2, .ref a3, .ref a4, .ref a5, .ref a6, .ref a7, .ref a8, .ref a9, .ref a10, .ref a11, .ref a12, .ref a13, .ref a14, .ref a15, .ref a16, .ref a17, .ref a18, .ref a19, .ref a20, .ref a21, .ref a22, .ref a23, .int 0, .int 0, .int 0, .int 0, .int 0, .int 0, .int 0, .ref a31]))]) [0] (by decide) rfl
      refine pn_mi (w1 := fun (u : Unit) => [(h0, .inr (5, [.int 0, .int 0, .ref a2, .ref a3, .ref a4, .ref a5, .ref a6, .ref a7, .ref a8, .ref a9, .ref a10, .ref a11, .ref a12, .ref a13, .ref a14, .ref a15, .ref a16, .ref a17, .ref a18, .ref a19, .ref a20, .ref a21, .ref a22, .ref a23, .int 0, .int 1, .int 0, .int 0, .int 0, .int 1, .int 0, .ref a31]))]) (wr := []) (wc := [(h0, .inr (5, [.int 0, .int 0, .ref a2, .ref a3, .ref a4, .ref a5, .ref a6, .ref a7, .ref a8, .ref a9, .ref a10, .ref a11, .ref a12, .ref a13, .ref a14, .ref a15, .ref a16, .ref a17, .ref a18, .ref a19, .ref a20, .ref a21, .ref a22, .ref a23, .int 0, .int 0, .int 0, .int 0, .int 0, .int 0, .int 0, .ref a31]))]) [0] [] (va_runV (As := [.int p0, .int p1]) (rest := []) ⟨hx, hb, hml, hown, hts⟩ (c_X5_runNow_0 l D cI cZ cJ cG H.size h0 a2 a3 a4 a5 a6 a7 a8 a9 a10 a11 a12 a13 a14 a15 a16 a17 a18 a19 a20 a21 a22 a23 a31 0 0 p0 p1) (cwV 2 hts (pl_V (pl_m 562 (by decide +kernel)) (pl_m 563 (by decide +kernel)) (pl_m 564 (by decide +kernel)) (pl_m 5 (by decide +kernel)) (pl_m 565 (by decide +kernel))) rfl rfl rfl (by decide +kernel) ⟨(Nat.le_of_ble_eq_true rfl), (Nat.le_of_ble_eq_true rfl)⟩) ⟨pn_M_blind, va_recv hK hPc (ci := 5) (q0 := 0) rfl rfl, (pn_M_at hPc hDc hK)⟩ rfl rfl hl.1 rfl (lv_room (Nat.le_of_ble_eq_true rfl)) dX5_run_22 ⟨(Nat.le_of_ble_eq_true rfl), (Nat.le_of_ble_eq_true rfl)⟩) hS hA hP hD rfl rfl (by decide) (by decide) (fun r_5 u_5 H locs hw hP hD hS => ?_)
      have hP : va_P D vwCl [(h0, .inr (5, [.int 0, .int 0, .ref a2, .ref a3, .ref a4, .ref a5, .ref a6, .ref a7, .ref a8, .ref a9, .ref a10, .ref a11, .ref a12, .ref a13, .ref a14, .ref a15, .ref a16, .ref a17, .ref a18, .ref a19, .ref a20, .ref a21, .ref a22, .ref a23, .int 0, .int 1, .int 0, .int 0, .int 0, .int 1, .int 0, .ref a31]))] H := hP
      have hD : va_D (A) [(h0, .inr (5, [.int 0, .int 0, .ref a2, .ref a3, .ref a4, .ref a5, .ref a6, .ref a7, .ref a8, .ref a9, .ref a10, .ref a11, .ref a12, .ref a13, .ref a14, .ref a15, .ref a16, .ref a17, .ref a18, .ref a19, .ref a20, .ref a21, .ref a22, .ref a23, .int 0, .int 1, .int 0, .int 0, .int 0, .int 1, .int 0, .ref a31]))] := hD
      obtain ⟨rfl, hw⟩ := hw
      try simp only [Int32.reduceToInt] at hw
      refine lv_goto (tgt := 33) hx hb dX5_run_25 (by decide) ?_
      have hP9 := hP.sub (ws' := [(h0, .inr (5, [.int 0, .int 0, .ref a2, .ref a3, .ref a4, .ref a5, .ref a6, .ref a7, .ref a8, .ref a9, .ref a10, .ref a11, .ref a12, .ref a13, .ref a14, .ref a15, .ref a16, .ref a17, .ref a18, .ref a19, .ref a20, .ref a21, .ref a22, .ref a23, .int 0, .int 1, .int 0, .int 0, .int 0, .int 1, .int 0, .ref a31]))]) [0] rfl
      have hD9 := hD.sub (ws' := [(h0, .inr (5, [.int 0, .int 0, .ref a2, .ref a3, .ref a4, .ref a5, .ref a6, .ref a7, .ref a8, .ref a9, .ref a10, .ref a11, .ref a12, .ref a13, .ref a14, .ref a15, .ref a16, .ref a17, .ref a18, .ref a19, .ref a20, .ref a21, .ref a22, .ref a23, .int 0, .int 1, .int 0, .int 0, .int 0, .int 1, .int 0, .ref a31]))]) [0] (by decide) rfl
      exact W.iret (v := (-10001)) hx hb hr (fun tz_ ht hW => ⟨⟨(-10001), (0, [.int 0, .ref a2, .ref a3, .ref a4, .ref a5, .ref a6, .ref a7, .ref a8, .ref a9, .ref a10, .ref a11, .ref a12, .ref a13, .ref a14, .ref a15, .ref a16, .ref a17, .ref a18, .ref a19, .ref a20, .ref a21, .ref a22, .ref a23, .int 0, .int 1, .int 0, .int 0, .int 0, .int 1, .int 0, .ref a31]), rfl, (Or.inl ⟨rfl, rfl, (by first | exact trivial | omega | (simp only [Int32.reduceToInt] at *; omega) | decide)⟩), (by rw [ht]; exact hP9), hD9⟩, hS.F ht⟩) hS.2.2 dX5_run_33
    · try simp only [Int32.reduceToInt] at hw
      have hw_6 := hw
      refine lv_if_eq (tgt := 28) hx hb dX5_run_16 (by decide) (fun _ => ?_) (fun h9 => absurd (by decide) h9)
      refine lv_aload_n hx hb dX5_run_28 rfl (lv_at hl 0 rfl) ?_
      refine lv_iconst (v := 1) hx hb dX5_run_29 (by decide) ?_
      have hPc := hP.sub (ws' := [(h0, .inr (5, [.int 0, .int 0, .ref a2, .ref a3, .ref a4, .ref a5, .ref a6, .ref a7, .ref a8, .ref a9, .ref a10, .ref a11, .ref a12, .ref a13, .ref a14, .ref a15, .ref a16, .ref a17, .ref a18, .ref a19, .ref a20, .ref a21, .ref a22, .ref a23, .int 0, .int 0, .int 0, .int 0, .int 0, .int 0, .int 0, .ref a31]))]) [0] rfl
      have hDc := hD.sub (ws' := [(h0, .inr (5, [.int 0, .int 0, .ref a2, .ref a3, .ref a4, .ref a5, .ref a6, .ref a7, .ref a8, .ref a9, .ref a10, .ref a11, .ref a12, .ref a13, .ref a14, .ref a15, .ref a16, .ref a17, .ref a18, .ref a19, .ref a20, .ref a21, .ref a22, .ref a23, .int 0, .int 0, .int 0, .int 0, .int 0, .int 0, .int 0, .ref a31]))]) [0] (by decide) rfl
      refine pn_mi (w1 := fun (u : Unit) => [(h0, .inr (5, [.int 1, .int 0, .ref a2, .ref a3, .ref a4, .ref a5, .ref a6, .ref a7, .ref a8, .ref a9, .ref a10, .ref a11, .ref a12, .ref a13, .ref a14, .ref a15, .ref a16, .ref a17, .ref a18, .ref a19, .ref a20, .ref a21, .ref a22, .ref a23, .int 0, .int 0, .int 0, .int 0, .int 0, .int 0, .int 0, .ref a31]))]) (wr := []) (wc := [(h0, .inr (5, [.int 0, .int 0, .ref a2, .ref a3, .ref a4, .ref a5, .ref a6, .ref a7, .ref a8, .ref a9, .ref a10, .ref a11, .ref a12, .ref a13, .ref a14, .ref a15, .ref a16, .ref a17, .ref a18, .ref a19, .ref a20, .ref a21, .ref a22, .ref a23, .int 0, .int 0, .int 0, .int 0, .int 0, .int 0, .int 0, .ref a31]))]) [0] [] (va_runV (As := [.int 1]) (rest := []) ⟨hx, hb, hml, hown, hts⟩ (c_X5_no l D cI cZ cJ cG H.size h0 a2 a3 a4 a5 a6 a7 a8 a9 a10 a11 a12 a13 a14 a15 a16 a17 a18 a19 a20 a21 a22 a23 a31 0 1) (cwV 1 hts (pl_V (pl_m 142 (by decide +kernel)) (pl_m 143 (by decide +kernel)) (pl_m 144 (by decide +kernel)) (pl_m 5 (by decide +kernel)) (pl_m 145 (by decide +kernel))) rfl rfl rfl (by decide +kernel) ⟨(Nat.le_of_ble_eq_true rfl), (Nat.le_of_ble_eq_true rfl)⟩) ⟨pn_M_blind, va_recv hK hPc (ci := 5) (q0 := 0) rfl rfl, (pn_M_at hPc hDc hK)⟩ rfl rfl hl.1 rfl (lv_room (Nat.le_of_ble_eq_true rfl)) dX5_run_30 ⟨(Nat.le_of_ble_eq_true rfl), (Nat.le_of_ble_eq_true rfl)⟩) hS hA hP hD rfl rfl (by decide) (by decide) (fun r_7 u_7 H locs hw hP hD hS => ?_)
      have hP : va_P D vwCl [(h0, .inr (5, [.int 1, .int 0, .ref a2, .ref a3, .ref a4, .ref a5, .ref a6, .ref a7, .ref a8, .ref a9, .ref a10, .ref a11, .ref a12, .ref a13, .ref a14, .ref a15, .ref a16, .ref a17, .ref a18, .ref a19, .ref a20, .ref a21, .ref a22, .ref a23, .int 0, .int 0, .int 0, .int 0, .int 0, .int 0, .int 0, .ref a31]))] H := hP
      have hD : va_D (A) [(h0, .inr (5, [.int 1, .int 0, .ref a2, .ref a3, .ref a4, .ref a5, .ref a6, .ref a7, .ref a8, .ref a9, .ref a10, .ref a11, .ref a12, .ref a13, .ref a14, .ref a15, .ref a16, .ref a17, .ref a18, .ref a19, .ref a20, .ref a21, .ref a22, .ref a23, .int 0, .int 0, .int 0, .int 0, .int 0, .int 0, .int 0, .ref a31]))] := hD
      obtain ⟨rfl, hw⟩ := hw
      try simp only [Int32.reduceToInt] at hw
      have hP9 := hP.sub (ws' := [(h0, .inr (5, [.int 1, .int 0, .ref a2, .ref a3, .ref a4, .ref a5, .ref a6, .ref a7, .ref a8, .ref a9, .ref a10, .ref a11, .ref a12, .ref a13, .ref a14, .ref a15, .ref a16, .ref a17, .ref a18, .ref a19, .ref a20, .ref a21, .ref a22, .ref a23, .int 0, .int 0, .int 0, .int 0, .int 0, .int 0, .int 0, .ref a31]))]) [0] rfl
      have hD9 := hD.sub (ws' := [(h0, .inr (5, [.int 1, .int 0, .ref a2, .ref a3, .ref a4, .ref a5, .ref a6, .ref a7, .ref a8, .ref a9, .ref a10, .ref a11, .ref a12, .ref a13, .ref a14, .ref a15, .ref a16, .ref a17, .ref a18, .ref a19, .ref a20, .ref a21, .ref a22, .ref a23, .int 0, .int 0, .int 0, .int 0, .int 0, .int 0, .int 0, .ref a31]))]) [0] (by decide) rfl
      exact W.iret (v := 0) hx hb hr (fun tz_ ht hW => ⟨⟨0, (1, [.int 0, .ref a2, .ref a3, .ref a4, .ref a5, .ref a6, .ref a7, .ref a8, .ref a9, .ref a10, .ref a11, .ref a12, .ref a13, .ref a14, .ref a15, .ref a16, .ref a17, .ref a18, .ref a19, .ref a20, .ref a21, .ref a22, .ref a23, .int 0, .int 0, .int 0, .int 0, .int 0, .int 0, .int 0, .ref a31]), rfl, (Or.inr ⟨rfl, rfl, (by first | exact trivial | omega | (simp only [Int32.reduceToInt] at *; omega) | decide)⟩), (by rw [ht]; exact hP9), hD9⟩, hS.F ht⟩) hS.2.2 dX5_run_33
  · try simp only [Int32.reduceToInt] at hw
    have hw_8 := hw
    refine lv_if_eq (tgt := 28) hx hb dX5_run_9 (by decide) (fun _ => ?_) (fun h9 => absurd (by decide) h9)
    refine lv_aload_n hx hb dX5_run_28 rfl (lv_at hl 0 rfl) ?_
    refine lv_iconst (v := 1) hx hb dX5_run_29 (by decide) ?_
    have hPc := hP.sub (ws' := [(h0, .inr (5, [.int 0, .int 0, .ref a2, .ref a3, .ref a4, .ref a5, .ref a6, .ref a7, .ref a8, .ref a9, .ref a10, .ref a11, .ref a12, .ref a13, .ref a14, .ref a15, .ref a16, .ref a17, .ref a18, .ref a19, .ref a20, .ref a21, .ref a22, .ref a23, .int 0, .int 0, .int 0, .int 0, .int 0, .int 0, .int 0, .ref a31]))]) [0] rfl
    have hDc := hD.sub (ws' := [(h0, .inr (5, [.int 0, .int 0, .ref a2, .ref a3, .ref a4, .ref a5, .ref a6, .ref a7, .ref a8, .ref a9, .ref a10, .ref a11, .ref a12, .ref a13, .ref a14, .ref a15, .ref a16, .ref a17, .ref a18, .ref a19, .ref a20, .ref a21, .ref a22, .ref a23, .int 0, .int 0, .int 0, .int 0, .int 0, .int 0, .int 0, .ref a31]))]) [0] (by decide) rfl
    refine pn_mi (w1 := fun (u : Unit) => [(h0, .inr (5, [.int 1, .int 0, .ref a2, .ref a3, .ref a4, .ref a5, .ref a6, .ref a7, .ref a8, .ref a9, .ref a10, .ref a11, .ref a12, .ref a13, .ref a14, .ref a15, .ref a16, .ref a17, .ref a18, .ref a19, .ref a20, .ref a21, .ref a22, .ref a23, .int 0, .int 0, .int 0, .int 0, .int 0, .int 0, .int 0, .ref a31]))]) (wr := []) (wc := [(h0, .inr (5, [.int 0, .int 0, .ref a2, .ref a3, .ref a4, .ref a5, .ref a6, .ref a7, .ref a8, .ref a9, .ref a10, .ref a11, .ref a12, .ref a13, .ref a14, .ref a15, .ref a16, .ref a17, .ref a18, .ref a19, .ref a20, .ref a21, .ref a22, .ref a23, .int 0, .int 0, .int 0, .int 0, .int 0, .int 0, .int 0, .ref a31]))]) [0] [] (va_runV (As := [.int 1]) (rest := []) ⟨hx, hb, hml, hown, hts⟩ (c_X5_no l D cI cZ cJ cG H.size h0 a2 a3 a4 a5 a6 a7 a8 a9 a10 a11 a12 a13 a14 a15 a16 a17 a18 a19 a20 a21 a22 a23 a31 0 1) (cwV 1 hts (pl_V (pl_m 142 (by decide +kernel)) (pl_m 143 (by decide +kernel)) (pl_m 144 (by decide +kernel)) (pl_m 5 (by decide +kernel)) (pl_m 145 (by decide +kernel))) rfl rfl rfl (by decide +kernel) ⟨(Nat.le_of_ble_eq_true rfl), (Nat.le_of_ble_eq_true rfl)⟩) ⟨pn_M_blind, va_recv hK hPc (ci := 5) (q0 := 0) rfl rfl, (pn_M_at hPc hDc hK)⟩ rfl rfl hl.1 rfl (lv_room (Nat.le_of_ble_eq_true rfl)) dX5_run_30 ⟨(Nat.le_of_ble_eq_true rfl), (Nat.le_of_ble_eq_true rfl)⟩) hS hA hP hD rfl rfl (by decide) (by decide) (fun r_9 u_9 H locs hw hP hD hS => ?_)
    have hP : va_P D vwCl [(h0, .inr (5, [.int 1, .int 0, .ref a2, .ref a3, .ref a4, .ref a5, .ref a6, .ref a7, .ref a8, .ref a9, .ref a10, .ref a11, .ref a12, .ref a13, .ref a14, .ref a15, .ref a16, .ref a17, .ref a18, .ref a19, .ref a20, .ref a21, .ref a22, .ref a23, .int 0, .int 0, .int 0, .int 0, .int 0, .int 0, .int 0, .ref a31]))] H := hP
    have hD : va_D (A) [(h0, .inr (5, [.int 1, .int 0, .ref a2, .ref a3, .ref a4, .ref a5, .ref a6, .ref a7, .ref a8, .ref a9, .ref a10, .ref a11, .ref a12, .ref a13, .ref a14, .ref a15, .ref a16, .ref a17, .ref a18, .ref a19, .ref a20, .ref a21, .ref a22, .ref a23, .int 0, .int 0, .int 0, .int 0, .int 0, .int 0, .int 0, .ref a31]))] := hD
    obtain ⟨rfl, hw⟩ := hw
    try simp only [Int32.reduceToInt] at hw
    have hP9 := hP.sub (ws' := [(h0, .inr (5, [.int 1, .int 0, .ref a2, .ref a3, .ref a4, .ref a5, .ref a6, .ref a7, .ref a8, .ref a9, .ref a10, .ref a11, .ref a12, .ref a13, .ref a14, .ref a15, .ref a16, .ref a17, .ref a18, .ref a19, .ref a20, .ref a21, .ref a22, .ref a23, .int 0, .int 0, .int 0, .int 0, .int 0, .int 0, .int 0, .ref a31]))]) [0] rfl
    have hD9 := hD.sub (ws' := [(h0, .inr (5, [.int 1, .int 0, .ref a2, .ref a3, .ref a4, .ref a5, .ref a6, .ref a7, .ref a8, .ref a9, .ref a10, .ref a11, .ref a12, .ref a13, .ref a14, .ref a15, .ref a16, .ref a17, .ref a18, .ref a19, .ref a20, .ref a21, .ref a22, .ref a23, .int 0, .int 0, .int 0, .int 0, .int 0, .int 0, .int 0, .ref a31]))]) [0] (by decide) rfl
    exact W.iret (v := 0) hx hb hr (fun tz_ ht hW => ⟨⟨0, (1, [.int 0, .ref a2, .ref a3, .ref a4, .ref a5, .ref a6, .ref a7, .ref a8, .ref a9, .ref a10, .ref a11, .ref a12, .ref a13, .ref a14, .ref a15, .ref a16, .ref a17, .ref a18, .ref a19, .ref a20, .ref a21, .ref a22, .ref a23, .int 0, .int 0, .int 0, .int 0, .int 0, .int 0, .int 0, .ref a31]), rfl, (Or.inr ⟨rfl, rfl, (by first | exact trivial | omega | (simp only [Int32.reduceToInt] at *; omega) | decide)⟩), (by rw [ht]; exact hP9), hD9⟩, hS.F ht⟩) hS.2.2 dX5_run_33
