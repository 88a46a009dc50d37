theorem dX1_loadClass_0 : decode cX1_loadClass 0 = .ok (.iload_n 1, 1) := by decide +kernel
theorem dX1_loadClass_1 : decode cX1_loadClass 1 = .ok (.ifCond .lt 14, 3) := by decide +kernel
theorem dX1_loadClass_4 : decode cX1_loadClass 4 = .ok (.iload_n 1, 1) := by decide +kernel
theorem dX1_loadClass_5 : decode cX1_loadClass 5 = .ok (.aload_n 0, 1) := by decide +kernel
theorem dX1_loadClass_6 : decode cX1_loadClass 6 = .ok (.getfield 28, 3) := by decide +kernel
theorem dX1_loadClass_9 : decode cX1_loadClass 9 = .ok (.getfield 39, 3) := by decide +kernel
theorem dX1_loadClass_12 : decode cX1_loadClass 12 = .ok (.if_icmp .lt 5, 3) := by decide +kernel
theorem dX1_loadClass_15 : decode cX1_loadClass 15 = .ok (.iconst 1, 1) := by decide +kernel
theorem dX1_loadClass_16 : decode cX1_loadClass 16 = .ok (.ireturn, 1) := by decide +kernel
theorem dX1_loadFromOutside_0 : decode cX1_loadFromOutside 0 = .ok (.aload_n 0, 1) := by decide +kernel
theorem dX1_loadFromOutside_1 : decode cX1_loadFromOutside 1 = .ok (.iload_n 1, 1) := by decide +kernel
theorem dX1_loadFromOutside_2 : decode cX1_loadFromOutside 2 = .ok (.invokevirtual 49, 3) := by decide +kernel
theorem dX1_loadFromOutside_5 : decode cX1_loadFromOutside 5 = .ok (.ireturn, 1) := by decide +kernel
theorem dX1_makeAndCall_0 : decode cX1_makeAndCall 0 = .ok (.aload_n 0, 1) := by decide +kernel
theorem dX1_makeAndCall_1 : decode cX1_makeAndCall 1 = .ok (.aload_n 0, 1) := by decide +kernel
theorem dX1_makeAndCall_2 : decode cX1_makeAndCall 2 = .ok (.iload_n 1, 1) := by decide +kernel
theorem dX1_makeAndCall_3 : decode cX1_makeAndCall 3 = .ok (.invokevirtual 49, 3) := by decide +kernel
theorem dX1_makeAndCall_6 : decode cX1_makeAndCall 6 = .ok (.putfield 59, 3) := by decide +kernel
theorem dX1_makeAndCall_9 : decode cX1_makeAndCall 9 = .ok (.aload_n 0, 1) := by decide +kernel
theorem dX1_makeAndCall_10 : decode cX1_makeAndCall 10 = .ok (.getfield 59, 3) := by decide +kernel
theorem dX1_makeAndCall_13 : decode cX1_makeAndCall 13 = .ok (.ifCond .ne 20, 3) := by decide +kernel
theorem dX1_makeAndCall_33 : decode cX1_makeAndCall 33 = .ok (.aload_n 0, 1) := by decide +kernel
theorem dX1_makeAndCall_34 : decode cX1_makeAndCall 34 = .ok (.getfield 59, 3) := by decide +kernel
theorem dX1_makeAndCall_37 : decode cX1_makeAndCall 37 = .ok (.ifCond .ne 8, 3) := by decide +kernel
theorem dX1_makeAndCall_45 : decode cX1_makeAndCall 45 = .ok (.aload_n 0, 1) := by decide +kernel
theorem dX1_makeAndCall_46 : decode cX1_makeAndCall 46 = .ok (.getfield 59, 3) := by decide +kernel
theorem dX1_makeAndCall_49 : decode cX1_makeAndCall 49 = .ok (.ifCond .eq 5, 3) := by decide +kernel
theorem dX1_makeAndCall_52 : decode cX1_makeAndCall 52 = .ok (.iconst 0, 1) := by decide +kernel
theorem dX1_makeAndCall_53 : decode cX1_makeAndCall 53 = .ok (.ireturn, 1) := by decide +kernel
theorem dX1_runFromOutside_0 : decode cX1_runFromOutside 0 = .ok (.aload_n 0, 1) := by decide +kernel
theorem dX1_runFromOutside_1 : decode cX1_runFromOutside 1 = .ok (.iconst 0, 1) := by decide +kernel
theorem dX1_runFromOutside_2 : decode cX1_runFromOutside 2 = .ok (.putfield 53, 3) := by decide +kernel
theorem dX1_runFromOutside_5 : decode cX1_runFromOutside 5 = .ok (.aload_n 0, 1) := by decide +kernel
theorem dX1_runFromOutside_6 : decode cX1_runFromOutside 6 = .ok (.iconst 0, 1) := by decide +kernel
theorem dX1_runFromOutside_7 : decode cX1_runFromOutside 7 = .ok (.putfield 56, 3) := by decide +kernel
theorem dX1_runFromOutside_10 : decode cX1_runFromOutside 10 = .ok (.aload_n 0, 1) := by decide +kernel
theorem dX1_runFromOutside_11 : decode cX1_runFromOutside 11 = .ok (.iconst 0, 1) := by decide +kernel
theorem dX1_runFromOutside_12 : decode cX1_runFromOutside 12 = .ok (.putfield 59, 3) := by decide +kernel
theorem dX1_runFromOutside_15 : decode cX1_runFromOutside 15 = .ok (.aload_n 0, 1) := by decide +kernel
theorem dX1_runFromOutside_16 : decode cX1_runFromOutside 16 = .ok (.iload_n 1, 1) := by decide +kernel
theorem dX1_runFromOutside_17 : decode cX1_runFromOutside 17 = .ok (.iload_n 2, 1) := by decide +kernel
theorem dX1_runFromOutside_18 : decode cX1_runFromOutside 18 = .ok (.invokevirtual 62, 3) := by decide +kernel
theorem dX1_runFromOutside_21 : decode cX1_runFromOutside 21 = .ok (.istore_n 3, 1) := by decide +kernel
theorem dX1_runFromOutside_22 : decode cX1_runFromOutside 22 = .ok (.aload_n 0, 1) := by decide +kernel
theorem dX1_runFromOutside_23 : decode cX1_runFromOutside 23 = .ok (.getfield 36, 3) := by decide +kernel
theorem dX1_runFromOutside_26 : decode cX1_runFromOutside 26 = .ok (.dup, 1) := by decide +kernel
theorem dX1_runFromOutside_27 : decode cX1_runFromOutside 27 = .ok (.getfield 66, 3) := by decide +kernel
theorem dX1_runFromOutside_30 : decode cX1_runFromOutside 30 = .ok (.iconst 1, 1) := by decide +kernel
theorem dX1_runFromOutside_31 : decode cX1_runFromOutside 31 = .ok (.iadd, 1) := by decide +kernel
theorem dX1_runFromOutside_32 : decode cX1_runFromOutside 32 = .ok (.putfield 66, 3) := by decide +kernel
theorem dX1_runFromOutside_35 : decode cX1_runFromOutside 35 = .ok (.aload_n 0, 1) := by decide +kernel
theorem dX1_runFromOutside_36 : decode cX1_runFromOutside 36 = .ok (.getfield 36, 3) := by decide +kernel
theorem dX1_runFromOutside_39 : decode cX1_runFromOutside 39 = .ok (.dup, 1) := by decide +kernel
theorem dX1_runFromOutside_40 : decode cX1_runFromOutside 40 = .ok (.getfield 69, 3) := by decide +kernel
theorem dX1_runFromOutside_43 : decode cX1_runFromOutside 43 = .ok (.aload_n 0, 1) := by decide +kernel
theorem dX1_runFromOutside_44 : decode cX1_runFromOutside 44 = .ok (.getfield 56, 3) := by decide +kernel
theorem dX1_runFromOutside_47 : decode cX1_runFromOutside 47 = .ok (.i2l, 1) := by decide +kernel
theorem dX1_runFromOutside_48 : decode cX1_runFromOutside 48 = .ok (.ladd, 1) := by decide +kernel
theorem dX1_runFromOutside_49 : decode cX1_runFromOutside 49 = .ok (.putfield 69, 3) := by decide +kernel
theorem dX1_runFromOutside_52 : decode cX1_runFromOutside 52 = .ok (.aload_n 0, 1) := by decide +kernel
theorem dX1_runFromOutside_53 : decode cX1_runFromOutside 53 = .ok (.getfield 36, 3) := by decide +kernel
theorem dX1_runFromOutside_56 : decode cX1_runFromOutside 56 = .ok (.aload_n 0, 1) := by decide +kernel
theorem dX1_runFromOutside_57 : decode cX1_runFromOutside 57 = .ok (.getfield 56, 3) := by decide +kernel
theorem dX1_runFromOutside_60 : decode cX1_runFromOutside 60 = .ok (.putfield 73, 3) := by decide +kernel
theorem dX1_runFromOutside_63 : decode cX1_runFromOutside 63 = .ok (.aload_n 0, 1) := by decide +kernel
theorem dX1_runFromOutside_64 : decode cX1_runFromOutside 64 = .ok (.getfield 36, 3) := by decide +kernel
theorem dX1_runFromOutside_67 : decode cX1_runFromOutside 67 = .ok (.aload_n 0, 1) := by decide +kernel
theorem dX1_runFromOutside_68 : decode cX1_runFromOutside 68 = .ok (.getfield 53, 3) := by decide +kernel
theorem dX1_runFromOutside_71 : decode cX1_runFromOutside 71 = .ok (.putfield 76, 3) := by decide +kernel
theorem dX1_runFromOutside_74 : decode cX1_runFromOutside 74 = .ok (.aload_n 0, 1) := by decide +kernel
theorem dX1_runFromOutside_75 : decode cX1_runFromOutside 75 = .ok (.getfield 59, 3) := by decide +kernel
theorem dX1_runFromOutside_78 : decode cX1_runFromOutside 78 = .ok (.ifCond .ne 7, 3) := by decide +kernel
theorem dX1_runFromOutside_85 : decode cX1_runFromOutside 85 = .ok (.sipush (-10000), 3) := by decide +kernel
theorem dX1_runFromOutside_88 : decode cX1_runFromOutside 88 = .ok (.aload_n 0, 1) := by decide +kernel
theorem dX1_runFromOutside_89 : decode cX1_runFromOutside 89 = .ok (.getfield 59, 3) := by decide +kernel
theorem dX1_runFromOutside_92 : decode cX1_runFromOutside 92 = .ok (.isub, 1) := by decide +kernel
theorem dX1_runFromOutside_93 : decode cX1_runFromOutside 93 = .ok (.ireturn, 1) := by decide +kernel
theorem dX3_addClass_0 : decode cX3_addClass 0 = .ok (.aload_n 0, 1) := by decide +kernel
theorem dX3_addClass_1 : decode cX3_addClass 1 = .ok (.getfield 40, 3) := by decide +kernel
theorem dX3_addClass_4 : decode cX3_addClass 4 = .ok (.istore 4, 2) := by decide +kernel
theorem dX3_addClass_6 : decode cX3_addClass 6 = .ok (.aload_n 0, 1) := by decide +kernel
theorem dX3_addClass_7 : decode cX3_addClass 7 = .ok (.getfield 9, 3) := by decide +kernel
theorem dX3_addClass_10 : decode cX3_addClass 10 = .ok (.iload 4, 2) := by decide +kernel
theorem dX3_addClass_12 : decode cX3_addClass 12 = .ok (.iload_n 1, 1) := by decide +kernel
theorem dX3_addClass_13 : decode cX3_addClass 13 = .ok (.bastore, 1) := by decide +kernel
theorem dX3_addClass_14 : decode cX3_addClass 14 = .ok (.aload_n 0, 1) := by decide +kernel
theorem dX3_addClass_15 : decode cX3_addClass 15 = .ok (.getfield 15, 3) := by decide +kernel
theorem dX3_addClass_18 : decode cX3_addClass 18 = .ok (.iload 4, 2) := by decide +kernel
theorem dX3_addClass_20 : decode cX3_addClass 20 = .ok (.iload_n 2, 1) := by decide +kernel
theorem dX3_addClass_21 : decode cX3_addClass 21 = .ok (.iastore, 1) := by decide +kernel
theorem dX3_addClass_22 : decode cX3_addClass 22 = .ok (.aload_n 0, 1) := by decide +kernel
theorem dX3_addClass_23 : decode cX3_addClass 23 = .ok (.getfield 19, 3) := by decide +kernel
theorem dX3_addClass_26 : decode cX3_addClass 26 = .ok (.iload 4, 2) := by decide +kernel
theorem dX3_addClass_28 : decode cX3_addClass 28 = .ok (.iload_n 3, 1) := by decide +kernel
theorem dX3_addClass_29 : decode cX3_addClass 29 = .ok (.iastore, 1) := by decide +kernel
theorem dX3_addClass_30 : decode cX3_addClass 30 = .ok (.aload_n 0, 1) := by decide +kernel
theorem dX3_addClass_31 : decode cX3_addClass 31 = .ok (.dup, 1) := by decide +kernel
theorem dX3_addClass_32 : decode cX3_addClass 32 = .ok (.getfield 40, 3) := by decide +kernel
theorem dX3_addClass_35 : decode cX3_addClass 35 = .ok (.iconst 1, 1) := by decide +kernel
theorem dX3_addClass_36 : decode cX3_addClass 36 = .ok (.iadd, 1) := by decide +kernel
theorem dX3_addClass_37 : decode cX3_addClass 37 = .ok (.putfield 40, 3) := by decide +kernel
theorem dX3_addClass_40 : decode cX3_addClass 40 = .ok (.iload 4, 2) := by decide +kernel
theorem dX3_addClass_42 : decode cX3_addClass 42 = .ok (.ireturn, 1) := by decide +kernel
theorem dX4_face_0 : decode cX4_face 0 = .ok (.iload_n 1, 1) := by decide +kernel
theorem dX4_face_1 : decode cX4_face 1 = .ok (.invokestatic 52, 3) := by decide +kernel
theorem dX4_face_4 : decode cX4_face 4 = .ok (.aload_n 0, 1) := by decide +kernel
theorem dX4_face_5 : decode cX4_face 5 = .ok (.invokevirtual 56, 3) := by decide +kernel
theorem dX4_face_8 : decode cX4_face 8 = .ok (.aload_n 0, 1) := by decide +kernel
theorem dX4_face_9 : decode cX4_face 9 = .ok (.getfield 12, 3) := by decide +kernel
theorem dX4_face_12 : decode cX4_face 12 = .ok (.iconst 1, 1) := by decide +kernel
theorem dX4_face_13 : decode cX4_face 13 = .ok (.iconst (-1), 1) := by decide +kernel
theorem dX4_face_14 : decode cX4_face 14 = .ok (.iload_n 1, 1) := by decide +kernel
theorem dX4_face_15 : decode cX4_face 15 = .ok (.invokevirtual 59, 3) := by decide +kernel
theorem dX4_face_18 : decode cX4_face 18 = .ok (.ireturn, 1) := by decide +kernel
theorem dX4_load_0 : decode cX4_load 0 = .ok (.iload_n 1, 1) := by decide +kernel
theorem dX4_load_1 : decode cX4_load 1 = .ok (.invokestatic 131, 3) := by decide +kernel
theorem dX4_load_4 : decode cX4_load 4 = .ok (.aload_n 0, 1) := by decide +kernel
theorem dX4_load_5 : decode cX4_load 5 = .ok (.getfield 37, 3) := by decide +kernel
theorem dX4_load_8 : decode cX4_load 8 = .ok (.iload_n 1, 1) := by decide +kernel
theorem dX4_load_9 : decode cX4_load 9 = .ok (.invokevirtual 134, 3) := by decide +kernel
theorem dX4_load_12 : decode cX4_load 12 = .ok (.ireturn, 1) := by decide +kernel
theorem dX4_plain_0 : decode cX4_plain 0 = .ok (.iload_n 1, 1) := by decide +kernel
theorem dX4_plain_1 : decode cX4_plain 1 = .ok (.iconst (-1), 1) := by decide +kernel
theorem dX4_plain_2 : decode cX4_plain 2 = .ok (.if_icmp .lt 20, 3) := by decide +kernel
theorem dX4_plain_5 : decode cX4_plain 5 = .ok (.iload_n 1, 1) := by decide +kernel
theorem dX4_plain_6 : decode cX4_plain 6 = .ok (.bipush 12, 2) := by decide +kernel
theorem dX4_plain_8 : decode cX4_plain 8 = .ok (.if_icmp .ge 14, 3) := by decide +kernel
theorem dX4_plain_11 : decode cX4_plain 11 = .ok (.iload_n 1, 1) := by decide +kernel
theorem dX4_plain_12 : decode cX4_plain 12 = .ok (.aload_n 0, 1) := by decide +kernel
theorem dX4_plain_13 : decode cX4_plain 13 = .ok (.getfield 12, 3) := by decide +kernel
theorem dX4_plain_16 : decode cX4_plain 16 = .ok (.getfield 41, 3) := by decide +kernel
theorem dX4_plain_19 : decode cX4_plain 19 = .ok (.if_icmp .ne 13, 3) := by decide +kernel
theorem dX4_plain_22 : decode cX4_plain 22 = .ok (.new 45, 3) := by decide +kernel
theorem dX4_plain_25 : decode cX4_plain 25 = .ok (.dup, 1) := by decide +kernel
theorem dX4_plain_26 : decode cX4_plain 26 = .ok (.ldc 47, 2) := by decide +kernel
theorem dX4_plain_28 : decode cX4_plain 28 = .ok (.invokespecial 49, 3) := by decide +kernel
theorem dX4_plain_31 : decode cX4_plain 31 = .ok (.athrow, 1) := by decide +kernel
theorem dX4_plain_32 : decode cX4_plain 32 = .ok (.iload_n 2, 1) := by decide +kernel
theorem dX4_plain_33 : decode cX4_plain 33 = .ok (.invokestatic 52, 3) := by decide +kernel
theorem dX4_plain_36 : decode cX4_plain 36 = .ok (.aload_n 0, 1) := by decide +kernel
theorem dX4_plain_37 : decode cX4_plain 37 = .ok (.invokevirtual 56, 3) := by decide +kernel
theorem dX4_plain_40 : decode cX4_plain 40 = .ok (.aload_n 0, 1) := by decide +kernel
theorem dX4_plain_41 : decode cX4_plain 41 = .ok (.getfield 12, 3) := by decide +kernel
theorem dX4_plain_44 : decode cX4_plain 44 = .ok (.iconst 0, 1) := by decide +kernel
theorem dX4_plain_45 : decode cX4_plain 45 = .ok (.iload_n 1, 1) := by decide +kernel
theorem dX4_plain_46 : decode cX4_plain 46 = .ok (.iload_n 2, 1) := by decide +kernel
theorem dX4_plain_47 : decode cX4_plain 47 = .ok (.invokevirtual 59, 3) := by decide +kernel
theorem dX4_plain_50 : decode cX4_plain 50 = .ok (.ireturn, 1) := by decide +kernel
theorem dX4_run_0 : decode cX4_run 0 = .ok (.iload_n 1, 1) := by decide +kernel
theorem dX4_run_1 : decode cX4_run 1 = .ok (.iload_n 2, 1) := by decide +kernel
theorem dX4_run_2 : decode cX4_run 2 = .ok (.invokestatic 138, 3) := by decide +kernel
theorem dX4_run_5 : decode cX4_run 5 = .ok (.aload_n 0, 1) := by decide +kernel
theorem dX4_run_6 : decode cX4_run 6 = .ok (.getfield 37, 3) := by decide +kernel
theorem dX4_run_9 : decode cX4_run 9 = .ok (.iload_n 1, 1) := by decide +kernel
theorem dX4_run_10 : decode cX4_run 10 = .ok (.iload_n 2, 1) := by decide +kernel
theorem dX4_run_11 : decode cX4_run 11 = .ok (.invokevirtual 141, 3) := by decide +kernel
theorem dX4_run_14 : decode cX4_run 14 = .ok (.ireturn, 1) := by decide +kernel
set_option maxHeartbeats 4000000 in
set_option maxRecDepth 100000 in
theorem c_X1_loadClass (l : Launch) (D : va_G) (cI cZ cJ cG : ClassId) (sz : Nat) (h0 : Nat) (t : Nat) (fi : Nat) (st : Nat) (kp : Nat) (m4 : Nat) (m5 : Nat) (m6 : Nat) (t1 : Nat) (t2 : Nat) (t3 : Nat) (t4 : Nat) (t5 : Nat) (t6 : Nat) (t7 : Nat) (t8 : Nat) (t9 : Nat) (fa : Int32) (p0 : Int32) : Met l yX1_loadClass (pl_h yX1_loadClass cX1_loadClass 3 (some .int)) ({ frames := 0, cells := 0, slots := 0, locals := 0 }) (va_Pc [.ref h0, .int p0] (pn_B D (pn_Y cI cZ cJ cG) [(h0, .inr (1, [.ref t, .ref fi, .ref st, .ref kp, .ref m4, .ref m5, .ref m6, .int 0, .int 0, .int 0, .int 0, .int fa])), (t, .inr (3, [.int 0, .ref t1, .ref t2, .ref t3, .ref t4, .ref t5, .ref t6, .ref t7, .ref t8, .ref t9]))] sz)) (va_Qi (fun (r : Int32) (u : Unit) => (r = 1 ∧ True)) (fun _ _ => True) (pn_N sz)) 0 0 (pn_N sz) := by
  refine Met.ofW (cc := cX1_loadClass) (maxL := 3) (ret := (some .int)) (by decide) rfl ?_
  intro p e s m args below meth c s₁ B hml hv
  obtain ⟨rfl, hsz, hP, hK⟩ := hv
  have hx := B.exec
  have hb := B.bytes
  have hr := B.returns
  have hts0 := atoms_spec (ws := pl_h yX1_loadClass cX1_loadClass 3 (some .int)) B.pre
  have hts := fun (w : Cond) (h : w ∈ pw_all) => hts0 w (List.mem_cons_of_mem _ h)
  have hown : s.vm.findClass RX1 = some m.cls := findClass_of_methodNamed B.named
  have hlocks := B.notSynchronized
  subst hsz
  have hA : ∀ q : Nat, s.heap.size ≤ q → pn_N s.heap.size q := fun q h => h
  have hS : va_S (pn_N s.heap.size) s.heap s.heap [] := va_S.rf
  have hl := lv_entry ([.ref h0, .int p0]) (n := 3) (Nat.le_of_ble_eq_true rfl)
  rw [lg_entry_eq]
  generalize (lg_sl ([.ref h0, .int p0]) ++ List.replicate (3 - (lg_sl ([.ref h0, .int p0])).length) Slot.unset).toArray = ls at hl ⊢
  have hl : lv_has ls 3 [(0, .ref h0), (1, .int p0)] := hl
  refine lv_iload_n hx hb dX1_loadClass_0 rfl (lv_at hl 1 rfl) ?_
  refine lv_if_lt (tgt := 15) hx hb dX1_loadClass_1 (by decide) (fun c_1 => ?_) (fun c_1 => ?_)
  · simp only [pn_lt, pn_le, pn_eq, Int32.reduceToInt] at c_1
    refine lv_iconst (v := 1) hx hb dX1_loadClass_15 (by decide) ?_
    exact W.iret (v := 1) hx hb hr (fun tz_ ht hW => ⟨⟨1, (), rfl, ⟨rfl, (by first | exact trivial | omega | (simp only [Int32.reduceToInt] at *; omega) | decide)⟩, trivial⟩, hS.F ht⟩) hS.2.2 dX1_loadClass_16
  · simp only [pn_lt, pn_le, pn_eq, Int32.reduceToInt] at c_1
    refine lv_iload_n hx hb dX1_loadClass_4 rfl (lv_at hl 1 rfl) ?_
    refine lv_aload_n hx hb dX1_loadClass_5 rfl (lv_at hl 0 rfl) ?_
    refine va_get (D := D) (ci := 1) (v := .ref t) (C := RX1) (T := TX1) (N := 12) hx hb hts inlX1 hown hK hP 0 rfl rfl 0 (by decide) (hts (.fieldLink RX1 28 "VtableTown$Machine" "told" "LVtableTown$Told;") (pl_m 76 (by decide +kernel))) (fun _ h9 => h9) rfl dX1_loadClass_6 ?_
    refine va_get (D := D) (ci := 3) (v := .int 0) (C := RX3) (T := TX3) (N := 10) hx hb hts inlX3 hown hK hP 1 rfl rfl 0 (by decide) (hts (.fieldLink RX1 39 "VtableTown$Told" "count" "I") (pl_m 324 (by decide +kernel))) (fun _ h9 => h9) rfl dX1_loadClass_9 ?_
    refine lv_icmp_lt (tgt := 17) hx hb dX1_loadClass_12 (by decide) (fun c_2 => ?_) (fun c_2 => ?_)
    · simp only [pn_lt, pn_le, pn_eq, Int32.reduceToInt] at c_2
      exfalso; omega
    · simp only [pn_lt, pn_le, pn_eq, Int32.reduceToInt] at c_2
      refine lv_iconst (v := 1) hx hb dX1_loadClass_15 (by decide) ?_
      exact W.iret (v := 1) hx hb hr (fun tz_ ht hW => ⟨⟨1, (), rfl, ⟨rfl, (by first | exact trivial | omega | (simp only [Int32.reduceToInt] at *; omega) | decide)⟩, trivial⟩, hS.F ht⟩) hS.2.2 dX1_loadClass_16
set_option maxHeartbeats 4000000 in
set_option maxRecDepth 100000 in
theorem c_X1_loadFromOutside (l : Launch) (D : va_G) (cI cZ cJ cG : ClassId) (sz : Nat) (h0 : Nat) (t : Nat) (fi : Nat) (st : Nat) (kp : Nat) (m4 : Nat) (m5 : Nat) (m6 : Nat) (t1 : Nat) (t2 : Nat) (t3 : Nat) (t4 : Nat) (t5 : Nat) (t6 : Nat) (t7 : Nat) (t8 : Nat) (t9 : Nat) (fa : Int32) (p0 : Int32) : Met l yX1_loadFromOutside (pl_h yX1_loadFromOutside cX1_loadFromOutside 2 (some .int)) ({ frames := 1, cells := 0, slots := 0, locals := 22 }) (va_Pc [.ref h0, .int p0] (pn_B D (pn_Y cI cZ cJ cG) [(h0, .inr (1, [.ref t, .ref fi, .ref st, .ref kp, .ref m4, .ref m5, .ref m6, .int 0, .int 0, .int 0, .int 0, .int fa])), (t, .inr (3, [.int 0, .ref t1, .ref t2, .ref t3, .ref t4, .ref t5, .ref t6, .ref t7, .ref t8, .ref t9]))] sz)) (va_Qi (fun (r : Int32) (u : Unit) => (r = 1 ∧ True)) (fun _ _ => True) (pn_N sz)) 0 0 (pn_N sz) := by
  refine Met.ofW (cc := cX1_loadFromOutside) (maxL := 2) (ret := (some .int)) (by decide) rfl ?_
  intro p e s m args below meth c s₁ B hml hv
  obtain ⟨rfl, hsz, hP, hK⟩ := hv
  have hx := B.exec
  have hb := B.bytes
  have hr := B.returns
  have hts0 := atoms_spec (ws := pl_h yX1_loadFromOutside cX1_loadFromOutside 2 (some .int)) B.pre
  have hts := fun (w : Cond) (h : w ∈ pw_all) => hts0 w (List.mem_cons_of_mem _ h)
  have hown : s.vm.findClass RX1 = some m.cls := findClass_of_methodNamed B.named
  have hlocks := B.notSynchronized
  subst hsz
  have hA : ∀ q : Nat, s.heap.size ≤ q → pn_N s.heap.size q := fun q h => h
  have hS : va_S (pn_N s.heap.size) s.heap s.heap [] := va_S.rf
  have hl := lv_entry ([.ref h0, .int p0]) (n := 2) (Nat.le_of_ble_eq_true rfl)
  rw [lg_entry_eq]
  generalize (lg_sl ([.ref h0, .int p0]) ++ List.replicate (2 - (lg_sl ([.ref h0, .int p0])).length) Slot.unset).toArray = ls at hl ⊢
  have hl : lv_has ls 2 [(0, .ref h0), (1, .int p0)] := hl
  refine lv_aload_n hx hb dX1_loadFromOutside_0 rfl (lv_at hl 0 rfl) ?_
  refine lv_iload_n hx hb dX1_loadFromOutside_1 rfl (lv_at hl 1 rfl) ?_
  have hPc := hP.sub (ws' := [(h0, .inr (1, [.ref t, .ref fi, .ref st, .ref kp, .ref m4, .ref m5, .ref m6, .int 0, .int 0, .int 0, .int 0, .int fa])), (t, .inr (3, [.int 0, .ref t1, .ref t2, .ref t3, .ref t4, .ref t5, .ref t6, .ref t7, .ref t8, .ref t9]))]) [0, 1] rfl
  refine pn_ci (va_runV (As := [.int p0]) (rest := []) ⟨hx, hb, hml, hown, hts⟩ (c_X1_loadClass l D cI cZ cJ cG s.heap.size h0 t fi st kp m4 m5 m6 t1 t2 t3 t4 t5 t6 t7 t8 t9 fa p0) (cwV 1 hts (pl_V (pl_m 320 (by decide +kernel)) (pl_m 321 (by decide +kernel)) (pl_m 322 (by decide +kernel)) (pl_m 27 (by decide +kernel)) (pl_m 323 (by decide +kernel))) rfl rfl rfl (by decide +kernel) ⟨(Nat.le_of_ble_eq_true rfl), (Nat.le_of_ble_eq_true rfl)⟩) ⟨pn_B_blind, va_recv hK hPc (ci := 1) (q0 := 0) rfl rfl, (pn_B_at hPc hK)⟩ rfl rfl hl.1 rfl (lv_room (Nat.le_of_ble_eq_true rfl)) dX1_loadFromOutside_2 ⟨(Nat.le_of_ble_eq_true rfl), (Nat.le_of_ble_eq_true rfl)⟩) hS hA hP (fun r_1 H locs hw hP hS => ?_)
  have hP : va_P D vwCl [(h0, .inr (1, [.ref t, .ref fi, .ref st, .ref kp, .ref m4, .ref m5, .ref m6, .int 0, .int 0, .int 0, .int 0, .int fa])), (t, .inr (3, [.int 0, .ref t1, .ref t2, .ref t3, .ref t4, .ref t5, .ref t6, .ref t7, .ref t8, .ref t9]))] H := hP
  obtain ⟨rfl, hw⟩ := hw
  try simp only [Int32.reduceToInt] at hw
  exact W.iret (v := 1) hx hb hr (fun tz_ ht hW => ⟨⟨1, (), rfl, ⟨rfl, (by first | exact trivial | omega | (simp only [Int32.reduceToInt] at *; omega) | decide)⟩, trivial⟩, hS.F ht⟩) hS.2.2 dX1_loadFromOutside_5
set_option maxHeartbeats 4000000 in
set_option maxRecDepth 100000 in
theorem c_X4_load (l : Launch) (D : va_G) (cI cZ cJ cG : ClassId) (sz : Nat) (h0 : Nat) (t : Nat) (fi : Nat) (st : Nat) (mc : Nat) (kp : Nat) (m4 : Nat) (m5 : Nat) (m6 : Nat) (t1 : Nat) (t2 : Nat) (t3 : Nat) (t4 : Nat) (t5 : Nat) (t6 : Nat) (t7 : Nat) (t8 : Nat) (t9 : Nat) (fa : Int32) (p0 : Int32) (hst : l.stackTraces = false) : vx_Met l yX4_load (pl_h yX4_load cX4_load 2 (some .int)) ({ frames := 7, cells := 1, slots := 6, locals := 102 }) (va_Pc [.ref h0, .int p0] (pn_X D (pn_Y cI cZ cJ cG) [(h0, .inr (4, [.ref t, .ref fi, .ref st, .ref mc])), (mc, .inr (1, [.ref t, .ref fi, .ref st, .ref kp, .ref m4, .ref m5, .ref m6, .int 0, .int 0, .int 0, .int 0, .int fa])), (t, .inr (3, [.int 0, .ref t1, .ref t2, .ref t3, .ref t4, .ref t5, .ref t6, .ref t7, .ref t8, .ref t9]))] (pn_N sz) sz)) (va_Qi (fun (r : Int32) (u : Unit) => (r = 1 ∧ (0 ≤ p0.toInt ∧ p0.toInt ≤ 11))) (fun _ _ => True) (pn_N sz)) (vx_X (fun _ : Unit => True) (fun E _ _ => (E = "java/lang/IndexOutOfBoundsException" ∧ (p0.toInt < 0 ∨ 11 < p0.toInt))) (pn_N sz)) 1 6 (pn_N sz) := by
  refine vx_ofW (cc := cX4_load) (maxL := 2) (ret := (some .int)) (by decide) rfl ?_
  intro p e s m args below meth c s₁ B hml hout hv
  obtain ⟨rfl, ⟨hsz, hP, hK, hD0⟩, hZ, hT⟩ := hv
  have hx := B.exec
  have hb := B.bytes
  have hr := B.returns
  have hts0 := atoms_spec (ws := pl_h yX4_load cX4_load 2 (some .int)) B.pre
  have hts := fun (w : Cond) (h : w ∈ pw_all) => hts0 w (List.mem_cons_of_mem _ h)
  have hown : s.vm.findClass RX4 = some m.cls := findClass_of_methodNamed B.named
  have hlocks := B.notSynchronized
  subst hsz
  have hA : ∀ q : Nat, s.heap.size ≤ q → pn_N s.heap.size q := fun q h => h
  have hS : va_S (pn_N s.heap.size) s.heap s.heap [] := va_S.rf
  have hD := hD0
  have hl := lv_entry ([.ref h0, .int p0]) (n := 2) (Nat.le_of_ble_eq_true rfl)
  rw [lg_entry_eq]
  generalize (lg_sl ([.ref h0, .int p0]) ++ List.replicate (2 - (lg_sl ([.ref h0, .int p0])).length) Slot.unset).toArray = ls at hl ⊢
  have hl : lv_has ls 2 [(0, .ref h0), (1, .int p0)] := hl
  refine lv_iload_n hx hb dX4_load_0 rfl (lv_at hl 1 rfl) ?_
  have hPc := hP.sub (ws' := []) [] rfl
  have hDc := hD.sub (ws' := []) [] (by decide) rfl
  refine pn_xv (vx_runS (As := [.int p0]) (rest := []) ⟨hx, hb, hml, hown, hts⟩ (c_X4_checkNumber l D cI cZ cJ cG s.heap.size p0 hst) (va_cwS 1 hts (pl_S (pl_m 313 (by decide +kernel)) (pl_m 314 (by decide +kernel)) (pl_m 2 (by decide +kernel)) (pl_m 315 (by decide +kernel))) rfl rfl rfl (by decide +kernel) ⟨(Nat.le_of_ble_eq_true rfl), (Nat.le_of_ble_eq_true rfl)⟩) ⟨pn_X_blind, (pn_X_at hPc hDc hK hS hZ hT (fun q h => pn_NA hS hA q h))⟩ rfl rfl hl.1 rfl (lv_room (Nat.le_of_ble_eq_true rfl)) dX4_load_1 ⟨(Nat.le_of_ble_eq_true rfl), (Nat.le_of_ble_eq_true rfl)⟩) hS hA hP (fun E ce q9 H locs hE hP hS h1 h2 h3 => ?_) (fun H locs hw hP hS => ?_)
  · refine pn_out (XE' := fun E => (E = "java/lang/IndexOutOfBoundsException" ∧ (p0.toInt < 0 ∨ 11 < p0.toInt))) hout hlocks hS ?_ h1 h2 h3 (Nat.le_of_ble_eq_true rfl) (Nat.le_of_ble_eq_true rfl)
    rcases hE with ⟨rfl, hE⟩
    · exact ⟨rfl, (by first | exact trivial | omega | (simp only [Int32.reduceToInt] at *; omega) | decide)⟩
  · have hP : va_P D vwCl [(h0, .inr (4, [.ref t, .ref fi, .ref st, .ref mc])), (mc, .inr (1, [.ref t, .ref fi, .ref st, .ref kp, .ref m4, .ref m5, .ref m6, .int 0, .int 0, .int 0, .int 0, .int fa])), (t, .inr (3, [.int 0, .ref t1, .ref t2, .ref t3, .ref t4, .ref t5, .ref t6, .ref t7, .ref t8, .ref t9]))] H := hP
    refine W.widen (k := 1) (n := 6) (Nat.le_of_ble_eq_true rfl) (Nat.le_of_ble_eq_true rfl) ?_
    refine lv_aload_n hx hb dX4_load_4 rfl (lv_at hl 0 rfl) ?_
    refine va_get (D := D) (ci := 4) (v := .ref mc) (C := RX4) (T := TX4) (N := 4) hx hb hts inlX4 hown hK hP 0 rfl rfl 3 (by decide) (hts (.fieldLink RX4 37 "VtableTown" "machine" "LVtableTown$Machine;") (pl_m 28 (by decide +kernel))) (fun _ h9 => h9) rfl dX4_load_5 ?_
    refine lv_iload_n hx hb dX4_load_8 rfl (lv_at hl 1 rfl) ?_
    have hPc := hP.sub (ws' := [(mc, .inr (1, [.ref t, .ref fi, .ref st, .ref kp, .ref m4, .ref m5, .ref m6, .int 0, .int 0, .int 0, .int 0, .int fa])), (t, .inr (3, [.int 0, .ref t1, .ref t2, .ref t3, .ref t4, .ref t5, .ref t6, .ref t7, .ref t8, .ref t9]))]) [1, 2] rfl
    refine pn_ci (va_runV (As := [.int p0]) (rest := []) ⟨hx, hb, hml, hown, hts⟩ (c_X1_loadFromOutside l D cI cZ cJ cG H.size mc t fi st kp m4 m5 m6 t1 t2 t3 t4 t5 t6 t7 t8 t9 fa p0) (cwV 1 hts (pl_V (pl_m 316 (by decide +kernel)) (pl_m 317 (by decide +kernel)) (pl_m 318 (by decide +kernel)) (pl_m 27 (by decide +kernel)) (pl_m 319 (by decide +kernel))) rfl rfl rfl (by decide +kernel) ⟨(Nat.le_of_ble_eq_true rfl), (Nat.le_of_ble_eq_true rfl)⟩) ⟨pn_B_blind, va_recv hK hPc (ci := 1) (q0 := 0) rfl rfl, (pn_B_at hPc hK)⟩ rfl rfl hl.1 rfl (lv_room (Nat.le_of_ble_eq_true rfl)) dX4_load_9 ⟨(Nat.le_of_ble_eq_true rfl), (Nat.le_of_ble_eq_true rfl)⟩) hS hA hP (fun r_2 H locs hw hP hS => ?_)
    have hP : va_P D vwCl [(h0, .inr (4, [.ref t, .ref fi, .ref st, .ref mc])), (mc, .inr (1, [.ref t, .ref fi, .ref st, .ref kp, .ref m4, .ref m5, .ref m6, .int 0, .int 0, .int 0, .int 0, .int fa])), (t, .inr (3, [.int 0, .ref t1, .ref t2, .ref t3, .ref t4, .ref t5, .ref t6, .ref t7, .ref t8, .ref t9]))] H := hP
    obtain ⟨rfl, hw⟩ := hw
    try simp only [Int32.reduceToInt] at hw
    refine vx_ret ?_
    exact W.iret (v := 1) hx hb hr (fun tz_ ht hW => ⟨⟨1, (), rfl, ⟨rfl, (by first | exact trivial | omega | (simp only [Int32.reduceToInt] at *; omega) | decide)⟩, trivial⟩, hS.F ht⟩) hS.2.2 dX4_load_12
set_option maxHeartbeats 4000000 in
set_option maxRecDepth 100000 in
theorem c_X1_makeAndCall (l : Launch) (D : va_G) (cI cZ cJ cG : ClassId) (sz : Nat) (h0 : Nat) (t : Nat) (fi : Nat) (st : Nat) (kp : Nat) (m4 : Nat) (m5 : Nat) (m6 : Nat) (t1 : Nat) (t2 : Nat) (t3 : Nat) (t4 : Nat) (t5 : Nat) (t6 : Nat) (t7 : Nat) (t8 : Nat) (t9 : Nat) (fa : Int32) (p0 : Int32) (p1 : Int32) : Met l yX1_makeAndCall (pl_h yX1_makeAndCall cX1_makeAndCall 4 (some .int)) ({ frames := 1, cells := 0, slots := 0, locals := 22 }) (va_Pc [.ref h0, .int p0, .int p1] (pn_M D (pn_Y cI cZ cJ cG) [(h0, .inr (1, [.ref t, .ref fi, .ref st, .ref kp, .ref m4, .ref m5, .ref m6, .int 0, .int 0, .int 0, .int 0, .int fa])), (t, .inr (3, [.int 0, .ref t1, .ref t2, .ref t3, .ref t4, .ref t5, .ref t6, .ref t7, .ref t8, .ref t9]))] sz)) (va_Qi (fun (r : Int32) (u : Unit) => (r = 0 ∧ True)) (fun u tz_ => va_P D vwCl [(h0, .inr (1, [.ref t, .ref fi, .ref st, .ref kp, .ref m4, .ref m5, .ref m6, .int 0, .int 0, .int 0, .int 0, .int 1])), (t, .inr (3, [.int 0, .ref t1, .ref t2, .ref t3, .ref t4, .ref t5, .ref t6, .ref t7, .ref t8, .ref t9]))] tz_.heap ∧ va_D (va_A [(h0, .inr (1, [.ref t, .ref fi, .ref st, .ref kp, .ref m4, .ref m5, .ref m6, .int 0, .int 0, .int 0, .int 0, .int fa])), (t, .inr (3, [.int 0, .ref t1, .ref t2, .ref t3, .ref t4, .ref t5, .ref t6, .ref t7, .ref t8, .ref t9]))] sz) [(h0, .inr (1, [.ref t, .ref fi, .ref st, .ref kp, .ref m4, .ref m5, .ref m6, .int 0, .int 0, .int 0, .int 0, .int 1])), (t, .inr (3, [.int 0, .ref t1, .ref t2, .ref t3, .ref t4, .ref t5, .ref t6, .ref t7, .ref t8, .ref t9]))]) (va_A [(h0, .inr (1, [.ref t, .ref fi, .ref st, .ref kp, .ref m4, .ref m5, .ref m6, .int 0, .int 0, .int 0, .int 0, .int fa])), (t, .inr (3, [.int 0, .ref t1, .ref t2, .ref t3, .ref t4, .ref t5, .ref t6, .ref t7, .ref t8, .ref t9]))] sz)) 0 0 (va_A [(h0, .inr (1, [.ref t, .ref fi, .ref st, .ref kp, .ref m4, .ref m5, .ref m6, .int 0, .int 0, .int 0, .int 0, .int fa])), (t, .inr (3, [.int 0, .ref t1, .ref t2, .ref t3, .ref t4, .ref t5, .ref t6, .ref t7, .ref t8, .ref t9]))] sz) := by
  refine Met.ofW (cc := cX1_makeAndCall) (maxL := 4) (ret := (some .int)) (by decide) rfl ?_
  intro p e s m args below meth c s₁ B hml hv
  obtain ⟨rfl, hsz, hP, hK, hD0⟩ := hv
  have hx := B.exec
  have hb := B.bytes
  have hr := B.returns
  have hts0 := atoms_spec (ws := pl_h yX1_makeAndCall cX1_makeAndCall 4 (some .int)) B.pre
  have hts := fun (w : Cond) (h : w ∈ pw_all) => hts0 w (List.mem_cons_of_mem _ h)
  have hown : s.vm.findClass RX1 = some m.cls := findClass_of_methodNamed B.named
  have hlocks := B.notSynchronized
  subst hsz
  have hD := hD0.self (sz := s.heap.size)
  generalize hAe : va_A [(h0, .inr (1, [.ref t, .ref fi, .ref st, .ref kp, .ref m4, .ref m5, .ref m6, .int 0, .int 0, .int 0, .int 0, .int fa])), (t, .inr (3, [.int 0, .ref t1, .ref t2, .ref t3, .ref t4, .ref t5, .ref t6, .ref t7, .ref t8, .ref t9]))] s.heap.size = A at hD ⊢
  have hA : ∀ q : Nat, s.heap.size ≤ q → A q := fun q h => by rw [← hAe]; exact Or.inr h
  have hS : va_S A s.heap s.heap [] := va_S.rf
  have hl := lv_entry ([.ref h0, .int p0, .int p1]) (n := 4) (Nat.le_of_ble_eq_true rfl)
  rw [lg_entry_eq]
  generalize (lg_sl ([.ref h0, .int p0, .int p1]) ++ List.replicate (4 - (lg_sl ([.ref h0, .int p0, .int p1])).length) Slot.unset).toArray = ls at hl ⊢
  have hl : lv_has ls 4 [(0, .ref h0), (1, .int p0), (2, .int p1)] := hl
  refine lv_aload_n hx hb dX1_makeAndCall_0 rfl (lv_at hl 0 rfl) ?_
  refine lv_aload_n hx hb dX1_makeAndCall_1 rfl (lv_at hl 0 rfl) ?_
  refine lv_iload_n hx hb dX1_makeAndCall_2 rfl (lv_at hl 1 rfl) ?_
  have hPc := hP.sub (ws' := [(h0, .inr (1, [.ref t, .ref fi, .ref st, .ref kp, .ref m4, .ref m5, .ref m6, .int 0, .int 0, .int 0, .int 0, .int fa])), (t, .inr (3, [.int 0, .ref t1, .ref t2, .ref t3, .ref t4, .ref t5, .ref t6, .ref t7, .ref t8, .ref t9]))]) [0, 1] rfl
  refine pn_ci (va_runV (As := [.int p0]) (rest := [.ref h0]) ⟨hx, hb, hml, hown, hts⟩ (c_X1_loadClass l D cI cZ cJ cG s.heap.size h0 t fi st kp m4 m5 m6 t1 t2 t3 t4 t5 t6 t7 t8 t9 fa p0) (cwV 1 hts (pl_V (pl_m 320 (by decide +kernel)) (pl_m 321 (by decide +kernel)) (pl_m 322 (by decide +kernel)) (pl_m 27 (by decide +kernel)) (pl_m 323 (by decide +kernel))) rfl rfl rfl (by decide +kernel) ⟨(Nat.le_of_ble_eq_true rfl), (Nat.le_of_ble_eq_true rfl)⟩) ⟨pn_B_blind, va_recv hK hPc (ci := 1) (q0 := 0) rfl rfl, (pn_B_at hPc hK)⟩ rfl rfl hl.1 rfl (lv_room (Nat.le_of_ble_eq_true rfl)) dX1_makeAndCall_3 ⟨(Nat.le_of_ble_eq_true rfl), (Nat.le_of_ble_eq_true rfl)⟩) hS hA hP (fun r_1 H locs hw hP hS => ?_)
  have hP : va_P D vwCl [(h0, .inr (1, [.ref t, .ref fi, .ref st, .ref kp, .ref m4, .ref m5, .ref m6, .int 0, .int 0, .int 0, .int 0, .int fa])), (t, .inr (3, [.int 0, .ref t1, .ref t2, .ref t3, .ref t4, .ref t5, .ref t6, .ref t7, .ref t8, .ref t9]))] H := hP
  obtain ⟨rfl, hw⟩ := hw
  try simp only [Int32.reduceToInt] at hw
  refine va_put (D := D) (ci := 1) (v := .int 1) (ty := .int) (C := RX1) (T := TX1) (N := 12) hx hb hts inlX1 tyX1 tyX1_ok nmX1 hown hK hP hD hS 0 rfl rfl 11 (by decide) (hts (.fieldLink RX1 59 "VtableTown$Machine" "fault" "I") (pl_m 453 (by decide +kernel))) (fun _ h9 => h9) rfl (by decide +kernel) rfl rfl (Nat.le_of_ble_eq_true rfl) dX1_makeAndCall_6 (fun H locs hP hD hS => ?_)
  have hP : va_P D vwCl [(h0, .inr (1, [.ref t, .ref fi, .ref st, .ref kp, .ref m4, .ref m5, .ref m6, .int 0, .int 0, .int 0, .int 0, .int 1])), (t, .inr (3, [.int 0, .ref t1, .ref t2, .ref t3, .ref t4, .ref t5, .ref t6, .ref t7, .ref t8, .ref t9]))] H := hP
  have hD : va_D (A) [(h0, .inr (1, [.ref t, .ref fi, .ref st, .ref kp, .ref m4, .ref m5, .ref m6, .int 0, .int 0, .int 0, .int 0, .int 1])), (t, .inr (3, [.int 0, .ref t1, .ref t2, .ref t3, .ref t4, .ref t5, .ref t6, .ref t7, .ref t8, .ref t9]))] := hD
  refine lv_aload_n hx hb dX1_makeAndCall_9 rfl (lv_at hl 0 rfl) ?_
  refine va_get (D := D) (ci := 1) (v := .int 1) (C := RX1) (T := TX1) (N := 12) hx hb hts inlX1 hown hK hP 0 rfl rfl 11 (by decide) (hts (.fieldLink RX1 59 "VtableTown$Machine" "fault" "I") (pl_m 453 (by decide +kernel))) (fun _ h9 => h9) rfl dX1_makeAndCall_10 ?_
  refine lv_if_ne (tgt := 33) hx hb dX1_makeAndCall_13 (by decide) (fun _ => ?_) (fun h9 => absurd h9 (by decide))
  refine lv_aload_n hx hb dX1_makeAndCall_33 rfl (lv_at hl 0 rfl) ?_
  refine va_get (D := D) (ci := 1) (v := .int 1) (C := RX1) (T := TX1) (N := 12) hx hb hts inlX1 hown hK hP 0 rfl rfl 11 (by decide) (hts (.fieldLink RX1 59 "VtableTown$Machine" "fault" "I") (pl_m 453 (by decide +kernel))) (fun _ h9 => h9) rfl dX1_makeAndCall_34 ?_
  refine lv_if_ne (tgt := 45) hx hb dX1_makeAndCall_37 (by decide) (fun _ => ?_) (fun h9 => absurd h9 (by decide))
  refine lv_aload_n hx hb dX1_makeAndCall_45 rfl (lv_at hl 0 rfl) ?_
  refine va_get (D := D) (ci := 1) (v := .int 1) (C := RX1) (T := TX1) (N := 12) hx hb hts inlX1 hown hK hP 0 rfl rfl 11 (by decide) (hts (.fieldLink RX1 59 "VtableTown$Machine" "fault" "I") (pl_m 453 (by decide +kernel))) (fun _ h9 => h9) rfl dX1_makeAndCall_46 ?_
  refine lv_if_eq (tgt := 54) hx hb dX1_makeAndCall_49 (by decide) (fun h9 => absurd h9 (by decide)) (fun _ => ?_)
  refine lv_iconst (v := 0) hx hb dX1_makeAndCall_52 (by decide) ?_
  have hP9 := hP.sub (ws' := [(h0, .inr (1, [.ref t, .ref fi, .ref st, .ref kp, .ref m4, .ref m5, .ref m6, .int 0, .int 0, .int 0, .int 0, .int 1])), (t, .inr (3, [.int 0, .ref t1, .ref t2, .ref t3, .ref t4, .ref t5, .ref t6, .ref t7, .ref t8, .ref t9]))]) [0, 1] rfl
  have hD9 := hD.sub (ws' := [(h0, .inr (1, [.ref t, .ref fi, .ref st, .ref kp, .ref m4, .ref m5, .ref m6, .int 0, .int 0, .int 0, .int 0, .int 1])), (t, .inr (3, [.int 0, .ref t1, .ref t2, .ref t3, .ref t4, .ref t5, .ref t6, .ref t7, .ref t8, .ref t9]))]) [0, 1] (by decide) rfl
  exact W.iret (v := 0) hx hb hr (fun tz_ ht hW => ⟨⟨0, (), rfl, ⟨rfl, (by first | exact trivial | omega | (simp only [Int32.reduceToInt] at *; omega) | decide)⟩, (by rw [ht]; exact hP9), hD9⟩, hS.F ht⟩) hS.2.2 dX1_makeAndCall_53
set_option maxHeartbeats 4000000 in
set_option maxRecDepth 100000 in
theorem c_X1_runFromOutside_0 (l : Launch) (D : va_G) (cI cZ cJ cG : ClassId) (sz : Nat) (h0 : Nat) (t : Nat) (fi : Nat) (st : Nat) (kp : Nat) (m4 : Nat) (m5 : Nat) (m6 : Nat) (t1 : Nat) (t2 : Nat) (t3 : Nat) (t4 : Nat) (t5 : Nat) (t6 : Nat) (t7 : Nat) (t8 : Nat) (t9 : Nat) (s5 : Nat) (s6 : Nat) (s7 : Nat) (s8 : Nat) (s9 : Nat) (s10 : Nat) (s11 : Nat) (s12 : Nat) (s13 : Nat) (s14 : Nat) (s15 : Nat) (s16 : Nat) (fa : Int32) (p0 : Int32) (p1 : Int32) : Met l yX1_runFromOutside (pl_h yX1_runFromOutside cX1_runFromOutside 4 (some .int)) ({ frames := 2, cells := 0, slots := 0, locals := 45 }) (va_Pc [.ref h0, .int p0, .int p1] (pn_M D (pn_Y cI cZ cJ cG) [(h0, .inr (1, [.ref t, .ref fi, .ref st, .ref kp, .ref m4, .ref m5, .ref m6, .int 0, .int 0, .int 0, .int 0, .int fa])), (t, .inr (3, [.int 0, .ref t1, .ref t2, .ref t3, .ref t4, .ref t5, .ref t6, .ref t7, .ref t8, .ref t9])), (st, .inr (2, [.int 0, .int 0, .long 0, .int 0, .int 0, .ref s5, .ref s6, .ref s7, .ref s8, .ref s9, .ref s10, .ref s11, .ref s12, .ref s13, .ref s14, .ref s15, .ref s16]))] sz)) (va_Qi (fun (r : Int32) (u : Unit) => (r = (-10001) ∧ True)) (fun u tz_ => va_P D vwCl [(h0, .inr (1, [.ref t, .ref fi, .ref st, .ref kp, .ref m4, .ref m5, .ref m6, .int 0, .int 0, .int 0, .int 0, .int 1])), (t, .inr (3, [.int 0, .ref t1, .ref t2, .ref t3, .ref t4, .ref t5, .ref t6, .ref t7, .ref t8, .ref t9])), (st, .inr (2, [.int 0, .int 1, .long 0, .int 0, .int 0, .ref s5, .ref s6, .ref s7, .ref s8, .ref s9, .ref s10, .ref s11, .ref s12, .ref s13, .ref s14, .ref s15, .ref s16]))] tz_.heap ∧ va_D (va_A [(h0, .inr (1, [.ref t, .ref fi, .ref st, .ref kp, .ref m4, .ref m5, .ref m6, .int 0, .int 0, .int 0, .int 0, .int fa])), (t, .inr (3, [.int 0, .ref t1, .ref t2, .ref t3, .ref t4, .ref t5, .ref t6, .ref t7, .ref t8, .ref t9])), (st, .inr (2, [.int 0, .int 0, .long 0, .int 0, .int 0, .ref s5, .ref s6, .ref s7, .ref s8, .ref s9, .ref s10, .ref s11, .ref s12, .ref s13, .ref s14, .ref s15, .ref s16]))] sz) [(h0, .inr (1, [.ref t, .ref fi, .ref st, .ref kp, .ref m4, .ref m5, .ref m6, .int 0, .int 0, .int 0, .int 0, .int 1])), (t, .inr (3, [.int 0, .ref t1, .ref t2, .ref t3, .ref t4, .ref t5, .ref t6, .ref t7, .ref t8, .ref t9])), (st, .inr (2, [.int 0, .int 1, .long 0, .int 0, .int 0, .ref s5, .ref s6, .ref s7, .ref s8, .ref s9, .ref s10, .ref s11, .ref s12, .ref s13, .ref s14, .ref s15, .ref s16]))]) (va_A [(h0, .inr (1, [.ref t, .ref fi, .ref st, .ref kp, .ref m4, .ref m5, .ref m6, .int 0, .int 0, .int 0, .int 0, .int fa])), (t, .inr (3, [.int 0, .ref t1, .ref t2, .ref t3, .ref t4, .ref t5, .ref t6, .ref t7, .ref t8, .ref t9])), (st, .inr (2, [.int 0, .int 0, .long 0, .int 0, .int 0, .ref s5, .ref s6, .ref s7, .ref s8, .ref s9, .ref s10, .ref s11, .ref s12, .ref s13, .ref s14, .ref s15, .ref s16]))] sz)) 0 0 (va_A [(h0, .inr (1, [.ref t, .ref fi, .ref st, .ref kp, .ref m4, .ref m5, .ref m6, .int 0, .int 0, .int 0, .int 0, .int fa])), (t, .inr (3, [.int 0, .ref t1, .ref t2, .ref t3, .ref t4, .ref t5, .ref t6, .ref t7, .ref t8, .ref t9])), (st, .inr (2, [.int 0, .int 0, .long 0, .int 0, .int 0, .ref s5, .ref s6, .ref s7, .ref s8, .ref s9, .ref s10, .ref s11, .ref s12, .ref s13, .ref s14, .ref s15, .ref s16]))] sz) := by
  refine Met.ofW (cc := cX1_runFromOutside) (maxL := 4) (ret := (some .int)) (by decide) rfl ?_
  intro p e s m args below meth c s₁ B hml hv
  obtain ⟨rfl, hsz, hP, hK, hD0⟩ := hv
  have hx := B.exec
  have hb := B.bytes
  have hr := B.returns
  have hts0 := atoms_spec (ws := pl_h yX1_runFromOutside cX1_runFromOutside 4 (some .int)) B.pre
  have hts := fun (w : Cond) (h : w ∈ pw_all) => hts0 w (List.mem_cons_of_mem _ h)
  have hown : s.vm.findClass RX1 = some m.cls := findClass_of_methodNamed B.named
  have hlocks := B.notSynchronized
  subst hsz
  have hD := hD0.self (sz := s.heap.size)
  generalize hAe : va_A [(h0, .inr (1, [.ref t, .ref fi, .ref st, .ref kp, .ref m4, .ref m5, .ref m6, .int 0, .int 0, .int 0, .int 0, .int fa])), (t, .inr (3, [.int 0, .ref t1, .ref t2, .ref t3, .ref t4, .ref t5, .ref t6, .ref t7, .ref t8, .ref t9])), (st, .inr (2, [.int 0, .int 0, .long 0, .int 0, .int 0, .ref s5, .ref s6, .ref s7, .ref s8, .ref s9, .ref s10, .ref s11, .ref s12, .ref s13, .ref s14, .ref s15, .ref s16]))] s.heap.size = A at hD ⊢
  have hA : ∀ q : Nat, s.heap.size ≤ q → A q := fun q h => by rw [← hAe]; exact Or.inr h
  have hS : va_S A s.heap s.heap [] := va_S.rf
  have hl := lv_entry ([.ref h0, .int p0, .int p1]) (n := 4) (Nat.le_of_ble_eq_true rfl)
  rw [lg_entry_eq]
  generalize (lg_sl ([.ref h0, .int p0, .int p1]) ++ List.replicate (4 - (lg_sl ([.ref h0, .int p0, .int p1])).length) Slot.unset).toArray = ls at hl ⊢
  have hl : lv_has ls 4 [(0, .ref h0), (1, .int p0), (2, .int p1)] := hl
  refine lv_aload_n hx hb dX1_runFromOutside_0 rfl (lv_at hl 0 rfl) ?_
  refine lv_iconst (v := 0) hx hb dX1_runFromOutside_1 (by decide) ?_
  refine va_put (D := D) (ci := 1) (v := .int 0) (ty := .int) (C := RX1) (T := TX1) (N := 12) hx hb hts inlX1 tyX1 tyX1_ok nmX1 hown hK hP hD hS 0 rfl rfl 9 (by decide) (hts (.fieldLink RX1 53 "VtableTown$Machine" "steps" "I") (pl_m 452 (by decide +kernel))) (fun _ h9 => h9) rfl (by decide +kernel) rfl rfl (Nat.le_of_ble_eq_true rfl) dX1_runFromOutside_2 (fun H locs hP hD hS => ?_)
  have hP : va_P D vwCl [(h0, .inr (1, [.ref t, .ref fi, .ref st, .ref kp, .ref m4, .ref m5, .ref m6, .int 0, .int 0, .int 0, .int 0, .int fa])), (t, .inr (3, [.int 0, .ref t1, .ref t2, .ref t3, .ref t4, .ref t5, .ref t6, .ref t7, .ref t8, .ref t9])), (st, .inr (2, [.int 0, .int 0, .long 0, .int 0, .int 0, .ref s5, .ref s6, .ref s7, .ref s8, .ref s9, .ref s10, .ref s11, .ref s12, .ref s13, .ref s14, .ref s15, .ref s16]))] H := hP
  have hD : va_D (A) [(h0, .inr (1, [.ref t, .ref fi, .ref st, .ref kp, .ref m4, .ref m5, .ref m6, .int 0, .int 0, .int 0, .int 0, .int fa])), (t, .inr (3, [.int 0, .ref t1, .ref t2, .ref t3, .ref t4, .ref t5, .ref t6, .ref t7, .ref t8, .ref t9])), (st, .inr (2, [.int 0, .int 0, .long 0, .int 0, .int 0, .ref s5, .ref s6, .ref s7, .ref s8, .ref s9, .ref s10, .ref s11, .ref s12, .ref s13, .ref s14, .ref s15, .ref s16]))] := hD
  refine lv_aload_n hx hb dX1_runFromOutside_5 rfl (lv_at hl 0 rfl) ?_
  refine lv_iconst (v := 0) hx hb dX1_runFromOutside_6 (by decide) ?_
  refine va_put (D := D) (ci := 1) (v := .int 0) (ty := .int) (C := RX1) (T := TX1) (N := 12) hx hb hts inlX1 tyX1 tyX1_ok nmX1 hown hK hP hD hS 0 rfl rfl 10 (by decide) (hts (.fieldLink RX1 56 "VtableTown$Machine" "cost" "I") (pl_m 366 (by decide +kernel))) (fun _ h9 => h9) rfl (by decide +kernel) rfl rfl (Nat.le_of_ble_eq_true rfl) dX1_runFromOutside_7 (fun H locs hP hD hS => ?_)
  have hP : va_P D vwCl [(h0, .inr (1, [.ref t, .ref fi, .ref st, .ref kp, .ref m4, .ref m5, .ref m6, .int 0, .int 0, .int 0, .int 0, .int fa])), (t, .inr (3, [.int 0, .ref t1, .ref t2, .ref t3, .ref t4, .ref t5, .ref t6, .ref t7, .ref t8, .ref t9])), (st, .inr (2, [.int 0, .int 0, .long 0, .int 0, .int 0, .ref s5, .ref s6, .ref s7, .ref s8, .ref s9, .ref s10, .ref s11, .ref s12, .ref s13, .ref s14, .ref s15, .ref s16]))] H := hP
  have hD : va_D (A) [(h0, .inr (1, [.ref t, .ref fi, .ref st, .ref kp, .ref m4, .ref m5, .ref m6, .int 0, .int 0, .int 0, .int 0, .int fa])), (t, .inr (3, [.int 0, .ref t1, .ref t2, .ref t3, .ref t4, .ref t5, .ref t6, .ref t7, .ref t8, .ref t9])), (st, .inr (2, [.int 0, .int 0, .long 0, .int 0, .int 0, .ref s5, .ref s6, .ref s7, .ref s8, .ref s9, .ref s10, .ref s11, .ref s12, .ref s13, .ref s14, .ref s15, .ref s16]))] := hD
  refine lv_aload_n hx hb dX1_runFromOutside_10 rfl (lv_at hl 0 rfl) ?_
  refine lv_iconst (v := 0) hx hb dX1_runFromOutside_11 (by decide) ?_
  refine va_put (D := D) (ci := 1) (v := .int 0) (ty := .int) (C := RX1) (T := TX1) (N := 12) hx hb hts inlX1 tyX1 tyX1_ok nmX1 hown hK hP hD hS 0 rfl rfl 11 (by decide) (hts (.fieldLink RX1 59 "VtableTown$Machine" "fault" "I") (pl_m 453 (by decide +kernel))) (fun _ h9 => h9) rfl (by decide +kernel) rfl rfl (Nat.le_of_ble_eq_true rfl) dX1_runFromOutside_12 (fun H locs hP hD hS => ?_)
  have hP : va_P D vwCl [(h0, .inr (1, [.ref t, .ref fi, .ref st, .ref kp, .ref m4, .ref m5, .ref m6, .int 0, .int 0, .int 0, .int 0, .int 0])), (t, .inr (3, [.int 0, .ref t1, .ref t2, .ref t3, .ref t4, .ref t5, .ref t6, .ref t7, .ref t8, .ref t9])), (st, .inr (2, [.int 0, .int 0, .long 0, .int 0, .int 0, .ref s5, .ref s6, .ref s7, .ref s8, .ref s9, .ref s10, .ref s11, .ref s12, .ref s13, .ref s14, .ref s15, .ref s16]))] H := hP
  have hD : va_D (A) [(h0, .inr (1, [.ref t, .ref fi, .ref st, .ref kp, .ref m4, .ref m5, .ref m6, .int 0, .int 0, .int 0, .int 0, .int 0])), (t, .inr (3, [.int 0, .ref t1, .ref t2, .ref t3, .ref t4, .ref t5, .ref t6, .ref t7, .ref t8, .ref t9])), (st, .inr (2, [.int 0, .int 0, .long 0, .int 0, .int 0, .ref s5, .ref s6, .ref s7, .ref s8, .ref s9, .ref s10, .ref s11, .ref s12, .ref s13, .ref s14, .ref s15, .ref s16]))] := hD
  refine lv_aload_n hx hb dX1_runFromOutside_15 rfl (lv_at hl 0 rfl) ?_
  refine lv_iload_n hx hb dX1_runFromOutside_16 rfl (lv_at hl 1 rfl) ?_
  refine lv_iload_n hx hb dX1_runFromOutside_17 rfl (lv_at hl 2 rfl) ?_
  have hPc := hP.sub (ws' := [(h0, .inr (1, [.ref t, .ref fi, .ref st, .ref kp, .ref m4, .ref m5, .ref m6, .int 0, .int 0, .int 0, .int 0, .int 0])), (t, .inr (3, [.int 0, .ref t1, .ref t2, .ref t3, .ref t4, .ref t5, .ref t6, .ref t7, .ref t8, .ref t9]))]) [0, 1] rfl
  have hDc := hD.sub (ws' := [(h0, .inr (1, [.ref t, .ref fi, .ref st, .ref kp, .ref m4, .ref m5, .ref m6, .int 0, .int 0, .int 0, .int 0, .int 0])), (t, .inr (3, [.int 0, .ref t1, .ref t2, .ref t3, .ref t4, .ref t5, .ref t6, .ref t7, .ref t8, .ref t9]))]) [0, 1] (by decide) rfl
  refine pn_mi (w1 := fun (u : Unit) => [(h0, .inr (1, [.ref t, .ref fi, .ref st, .ref kp, .ref m4, .ref m5, .ref m6, .int 0, .int 0, .int 0, .int 0, .int 1])), (t, .inr (3, [.int 0, .ref t1, .ref t2, .ref t3, .ref t4, .ref t5, .ref t6, .ref t7, .ref t8, .ref t9]))]) (wr := [(st, .inr (2, [.int 0, .int 0, .long 0, .int 0, .int 0, .ref s5, .ref s6, .ref s7, .ref s8, .ref s9, .ref s10, .ref s11, .ref s12, .ref s13, .ref s14, .ref s15, .ref s16]))]) (wc := [(h0, .inr (1, [.ref t, .ref fi, .ref st, .ref kp, .ref m4, .ref m5, .ref m6, .int 0, .int 0, .int 0, .int 0, .int 0])), (t, .inr (3, [.int 0, .ref t1, .ref t2, .ref t3, .ref t4, .ref t5, .ref t6, .ref t7, .ref t8, .ref t9]))]) [0, 1] [2] (va_runV (As := [.int p0, .int p1]) (rest := []) ⟨hx, hb, hml, hown, hts⟩ (c_X1_makeAndCall l D cI cZ cJ cG H.size h0 t fi st kp m4 m5 m6 t1 t2 t3 t4 t5 t6 t7 t8 t9 0 p0 p1) (cwV 2 hts (pl_V (pl_m 458 (by decide +kernel)) (pl_m 459 (by decide +kernel)) (pl_m 460 (by decide +kernel)) (pl_m 27 (by decide +kernel)) (pl_m 461 (by decide +kernel))) rfl rfl rfl (by decide +kernel) ⟨(Nat.le_of_ble_eq_true rfl), (Nat.le_of_ble_eq_true rfl)⟩) ⟨pn_M_blind, va_recv hK hPc (ci := 1) (q0 := 0) rfl rfl, (pn_M_at hPc hDc hK)⟩ rfl rfl hl.1 rfl (lv_room (Nat.le_of_ble_eq_true rfl)) dX1_runFromOutside_18 ⟨(Nat.le_of_ble_eq_true rfl), (Nat.le_of_ble_eq_true rfl)⟩) hS hA hP hD rfl rfl (by decide) (by decide) (fun r_1 u_1 H locs hw hP hD hS => ?_)
  have hP : va_P D vwCl [(st, .inr (2, [.int 0, .int 0, .long 0, .int 0, .int 0, .ref s5, .ref s6, .ref s7, .ref s8, .ref s9, .ref s10, .ref s11, .ref s12, .ref s13, .ref s14, .ref s15, .ref s16])), (h0, .inr (1, [.ref t, .ref fi, .ref st, .ref kp, .ref m4, .ref m5, .ref m6, .int 0, .int 0, .int 0, .int 0, .int 1])), (t, .inr (3, [.int 0, .ref t1, .ref t2, .ref t3, .ref t4, .ref t5, .ref t6, .ref t7, .ref t8, .ref t9]))] H := hP
  have hD : va_D (A) [(st, .inr (2, [.int 0, .int 0, .long 0, .int 0, .int 0, .ref s5, .ref s6, .ref s7, .ref s8, .ref s9, .ref s10, .ref s11, .ref s12, .ref s13, .ref s14, .ref s15, .ref s16])), (h0, .inr (1, [.ref t, .ref fi, .ref st, .ref kp, .ref m4, .ref m5, .ref m6, .int 0, .int 0, .int 0, .int 0, .int 1])), (t, .inr (3, [.int 0, .ref t1, .ref t2, .ref t3, .ref t4, .ref t5, .ref t6, .ref t7, .ref t8, .ref t9]))] := hD
  obtain ⟨rfl, hw⟩ := hw
  try simp only [Int32.reduceToInt] at hw
  refine lv_istore_n (lv' := [(3, .int 0), (0, .ref h0), (1, .int p0), (2, .int p1)]) hx hb dX1_runFromOutside_21 rfl hl (by decide) rfl (fun ls hl => ?_)
  refine lv_aload_n hx hb dX1_runFromOutside_22 rfl (lv_at hl 1 rfl) ?_
  refine va_get (D := D) (ci := 1) (v := .ref st) (C := RX1) (T := TX1) (N := 12) hx hb hts inlX1 hown hK hP 1 rfl rfl 2 (by decide) (hts (.fieldLink RX1 36 "VtableTown$Machine" "state" "LVtableTown$State;") (pl_m 78 (by decide +kernel))) (fun _ h9 => h9) rfl dX1_runFromOutside_23 ?_
  refine lv_dup hx hb dX1_runFromOutside_26 rfl ?_
  refine va_get (D := D) (ci := 2) (v := .int 0) (C := RX2) (T := TX2) (N := 17) hx hb hts inlX2 hown hK hP 0 rfl rfl 1 (by decide) (hts (.fieldLink RX1 66 "VtableTown$State" "runs" "I") (pl_m 454 (by decide +kernel))) (fun _ h9 => h9) rfl dX1_runFromOutside_27 ?_
  refine lv_iconst (v := 1) hx hb dX1_runFromOutside_30 (by decide) ?_
  refine lv_iadd hx hb dX1_runFromOutside_31 ?_
  refine lv_topi (fun f_2 ef_2 => ?_)
  have ef_2 : f_2 = 1 := by rw [ef_2]; decide +kernel
  subst ef_2
  refine va_put (D := D) (ci := 2) (v := .int 1) (ty := .int) (C := RX2) (T := TX2) (N := 17) hx hb hts inlX2 tyX2 tyX2_ok nmX2 hown hK hP hD hS 0 rfl rfl 1 (by decide) (hts (.fieldLink RX1 66 "VtableTown$State" "runs" "I") (pl_m 454 (by decide +kernel))) (fun _ h9 => h9) rfl (by decide +kernel) rfl rfl (Nat.le_of_ble_eq_true rfl) dX1_runFromOutside_32 (fun H locs hP hD hS => ?_)
  have hP : va_P D vwCl [(st, .inr (2, [.int 0, .int 1, .long 0, .int 0, .int 0, .ref s5, .ref s6, .ref s7, .ref s8, .ref s9, .ref s10, .ref s11, .ref s12, .ref s13, .ref s14, .ref s15, .ref s16])), (h0, .inr (1, [.ref t, .ref fi, .ref st, .ref kp, .ref m4, .ref m5, .ref m6, .int 0, .int 0, .int 0, .int 0, .int 1])), (t, .inr (3, [.int 0, .ref t1, .ref t2, .ref t3, .ref t4, .ref t5, .ref t6, .ref t7, .ref t8, .ref t9]))] H := hP
  have hD : va_D (A) [(st, .inr (2, [.int 0, .int 1, .long 0, .int 0, .int 0, .ref s5, .ref s6, .ref s7, .ref s8, .ref s9, .ref s10, .ref s11, .ref s12, .ref s13, .ref s14, .ref s15, .ref s16])), (h0, .inr (1, [.ref t, .ref fi, .ref st, .ref kp, .ref m4, .ref m5, .ref m6, .int 0, .int 0, .int 0, .int 0, .int 1])), (t, .inr (3, [.int 0, .ref t1, .ref t2, .ref t3, .ref t4, .ref t5, .ref t6, .ref t7, .ref t8, .ref t9]))] := hD
  refine lv_aload_n hx hb dX1_runFromOutside_35 rfl (lv_at hl 1 rfl) ?_
  refine va_get (D := D) (ci := 1) (v := .ref st) (C := RX1) (T := TX1) (N := 12) hx hb hts inlX1 hown hK hP 1 rfl rfl 2 (by decide) (hts (.fieldLink RX1 36 "VtableTown$Machine" "state" "LVtableTown$State;") (pl_m 78 (by decide +kernel))) (fun _ h9 => h9) rfl dX1_runFromOutside_36 ?_
  refine lv_dup hx hb dX1_runFromOutside_39 rfl ?_
  refine va_get (D := D) (ci := 2) (v := .long 0) (C := RX2) (T := TX2) (N := 17) hx hb hts inlX2 hown hK hP 0 rfl rfl 2 (by decide) (hts (.fieldLink RX1 69 "VtableTown$State" "costs" "J") (pl_m 455 (by decide +kernel))) (fun _ h9 => h9) rfl dX1_runFromOutside_40 ?_
  refine lv_aload_n hx hb dX1_runFromOutside_43 rfl (lv_at hl 1 rfl) ?_
  refine va_get (D := D) (ci := 1) (v := .int 0) (C := RX1) (T := TX1) (N := 12) hx hb hts inlX1 hown hK hP 1 rfl rfl 10 (by decide) (hts (.fieldLink RX1 56 "VtableTown$Machine" "cost" "I") (pl_m 366 (by decide +kernel))) (fun _ h9 => h9) rfl dX1_runFromOutside_44 ?_
  refine lv_i2l (v := 0) hx hb dX1_runFromOutside_47 (by decide +kernel) ?_
  refine lv_ladd hx hb dX1_runFromOutside_48 ?_
  refine lv_topl (fun f_3 ef_3 => ?_)
  have ef_3 : f_3 = 0 := by rw [ef_3]; decide +kernel
  subst ef_3
  refine va_put (D := D) (ci := 2) (v := .long 0) (ty := .long) (C := RX2) (T := TX2) (N := 17) hx hb hts inlX2 tyX2 tyX2_ok nmX2 hown hK hP hD hS 0 rfl rfl 2 (by decide) (hts (.fieldLink RX1 69 "VtableTown$State" "costs" "J") (pl_m 455 (by decide +kernel))) (fun _ h9 => h9) rfl (by decide +kernel) rfl rfl (Nat.le_of_ble_eq_true rfl) dX1_runFromOutside_49 (fun H locs hP hD hS => ?_)
  have hP : va_P D vwCl [(st, .inr (2, [.int 0, .int 1, .long 0, .int 0, .int 0, .ref s5, .ref s6, .ref s7, .ref s8, .ref s9, .ref s10, .ref s11, .ref s12, .ref s13, .ref s14, .ref s15, .ref s16])), (h0, .inr (1, [.ref t, .ref fi, .ref st, .ref kp, .ref m4, .ref m5, .ref m6, .int 0, .int 0, .int 0, .int 0, .int 1])), (t, .inr (3, [.int 0, .ref t1, .ref t2, .ref t3, .ref t4, .ref t5, .ref t6, .ref t7, .ref t8, .ref t9]))] H := hP
  have hD : va_D (A) [(st, .inr (2, [.int 0, .int 1, .long 0, .int 0, .int 0, .ref s5, .ref s6, .ref s7, .ref s8, .ref s9, .ref s10, .ref s11, .ref s12, .ref s13, .ref s14, .ref s15, .ref s16])), (h0, .inr (1, [.ref t, .ref fi, .ref st, .ref kp, .ref m4, .ref m5, .ref m6, .int 0, .int 0, .int 0, .int 0, .int 1])), (t, .inr (3, [.int 0, .ref t1, .ref t2, .ref t3, .ref t4, .ref t5, .ref t6, .ref t7, .ref t8, .ref t9]))] := hD
  refine lv_aload_n hx hb dX1_runFromOutside_52 rfl (lv_at hl 1 rfl) ?_
  refine va_get (D := D) (ci := 1) (v := .ref st) (C := RX1) (T := TX1) (N := 12) hx hb hts inlX1 hown hK hP 1 rfl rfl 2 (by decide) (hts (.fieldLink RX1 36 "VtableTown$Machine" "state" "LVtableTown$State;") (pl_m 78 (by decide +kernel))) (fun _ h9 => h9) rfl dX1_runFromOutside_53 ?_
  refine lv_aload_n hx hb dX1_runFromOutside_56 rfl (lv_at hl 1 rfl) ?_
  refine va_get (D := D) (ci := 1) (v := .int 0) (C := RX1) (T := TX1) (N := 12) hx hb hts inlX1 hown hK hP 1 rfl rfl 10 (by decide) (hts (.fieldLink RX1 56 "VtableTown$Machine" "cost" "I") (pl_m 366 (by decide +kernel))) (fun _ h9 => h9) rfl dX1_runFromOutside_57 ?_
  refine va_put (D := D) (ci := 2) (v := .int 0) (ty := .int) (C := RX2) (T := TX2) (N := 17) hx hb hts inlX2 tyX2 tyX2_ok nmX2 hown hK hP hD hS 0 rfl rfl 3 (by decide) (hts (.fieldLink RX1 73 "VtableTown$State" "lastCost" "I") (pl_m 456 (by decide +kernel))) (fun _ h9 => h9) rfl (by decide +kernel) rfl rfl (Nat.le_of_ble_eq_true rfl) dX1_runFromOutside_60 (fun H locs hP hD hS => ?_)
  have hP : va_P D vwCl [(st, .inr (2, [.int 0, .int 1, .long 0, .int 0, .int 0, .ref s5, .ref s6, .ref s7, .ref s8, .ref s9, .ref s10, .ref s11, .ref s12, .ref s13, .ref s14, .ref s15, .ref s16])), (h0, .inr (1, [.ref t, .ref fi, .ref st, .ref kp, .ref m4, .ref m5, .ref m6, .int 0, .int 0, .int 0, .int 0, .int 1])), (t, .inr (3, [.int 0, .ref t1, .ref t2, .ref t3, .ref t4, .ref t5, .ref t6, .ref t7, .ref t8, .ref t9]))] H := hP
  have hD : va_D (A) [(st, .inr (2, [.int 0, .int 1, .long 0, .int 0, .int 0, .ref s5, .ref s6, .ref s7, .ref s8, .ref s9, .ref s10, .ref s11, .ref s12, .ref s13, .ref s14, .ref s15, .ref s16])), (h0, .inr (1, [.ref t, .ref fi, .ref st, .ref kp, .ref m4, .ref m5, .ref m6, .int 0, .int 0, .int 0, .int 0, .int 1])), (t, .inr (3, [.int 0, .ref t1, .ref t2, .ref t3, .ref t4, .ref t5, .ref t6, .ref t7, .ref t8, .ref t9]))] := hD
  refine lv_aload_n hx hb dX1_runFromOutside_63 rfl (lv_at hl 1 rfl) ?_
  refine va_get (D := D) (ci := 1) (v := .ref st) (C := RX1) (T := TX1) (N := 12) hx hb hts inlX1 hown hK hP 1 rfl rfl 2 (by decide) (hts (.fieldLink RX1 36 "VtableTown$Machine" "state" "LVtableTown$State;") (pl_m 78 (by decide +kernel))) (fun _ h9 => h9) rfl dX1_runFromOutside_64 ?_
  refine lv_aload_n hx hb dX1_runFromOutside_67 rfl (lv_at hl 1 rfl) ?_
  refine va_get (D := D) (ci := 1) (v := .int 0) (C := RX1) (T := TX1) (N := 12) hx hb hts inlX1 hown hK hP 1 rfl rfl 9 (by decide) (hts (.fieldLink RX1 53 "VtableTown$Machine" "steps" "I") (pl_m 452 (by decide +kernel))) (fun _ h9 => h9) rfl dX1_runFromOutside_68 ?_
  refine va_put (D := D) (ci := 2) (v := .int 0) (ty := .int) (C := RX2) (T := TX2) (N := 17) hx hb hts inlX2 tyX2 tyX2_ok nmX2 hown hK hP hD hS 0 rfl rfl 4 (by decide) (hts (.fieldLink RX1 76 "VtableTown$State" "lastSteps" "I") (pl_m 457 (by decide +kernel))) (fun _ h9 => h9) rfl (by decide +kernel) rfl rfl (Nat.le_of_ble_eq_true rfl) dX1_runFromOutside_71 (fun H locs hP hD hS => ?_)
  have hP : va_P D vwCl [(st, .inr (2, [.int 0, .int 1, .long 0, .int 0, .int 0, .ref s5, .ref s6, .ref s7, .ref s8, .ref s9, .ref s10, .ref s11, .ref s12, .ref s13, .ref s14, .ref s15, .ref s16])), (h0, .inr (1, [.ref t, .ref fi, .ref st, .ref kp, .ref m4, .ref m5, .ref m6, .int 0, .int 0, .int 0, .int 0, .int 1])), (t, .inr (3, [.int 0, .ref t1, .ref t2, .ref t3, .ref t4, .ref t5, .ref t6, .ref t7, .ref t8, .ref t9]))] H := hP
  have hD : va_D (A) [(st, .inr (2, [.int 0, .int 1, .long 0, .int 0, .int 0, .ref s5, .ref s6, .ref s7, .ref s8, .ref s9, .ref s10, .ref s11, .ref s12, .ref s13, .ref s14, .ref s15, .ref s16])), (h0, .inr (1, [.ref t, .ref fi, .ref st, .ref kp, .ref m4, .ref m5, .ref m6, .int 0, .int 0, .int 0, .int 0, .int 1])), (t, .inr (3, [.int 0, .ref t1, .ref t2, .ref t3, .ref t4, .ref t5, .ref t6, .ref t7, .ref t8, .ref t9]))] := hD
  refine lv_aload_n hx hb dX1_runFromOutside_74 rfl (lv_at hl 1 rfl) ?_
  refine va_get (D := D) (ci := 1) (v := .int 1) (C := RX1) (T := TX1) (N := 12) hx hb hts inlX1 hown hK hP 1 rfl rfl 11 (by decide) (hts (.fieldLink RX1 59 "VtableTown$Machine" "fault" "I") (pl_m 453 (by decide +kernel))) (fun _ h9 => h9) rfl dX1_runFromOutside_75 ?_
  refine lv_if_ne (tgt := 85) hx hb dX1_runFromOutside_78 (by decide) (fun _ => ?_) (fun h9 => absurd h9 (by decide))
  refine lv_sipush (v := (-10000)) hx hb dX1_runFromOutside_85 (by decide) ?_
  refine lv_aload_n hx hb dX1_runFromOutside_88 rfl (lv_at hl 1 rfl) ?_
  refine va_get (D := D) (ci := 1) (v := .int 1) (C := RX1) (T := TX1) (N := 12) hx hb hts inlX1 hown hK hP 1 rfl rfl 11 (by decide) (hts (.fieldLink RX1 59 "VtableTown$Machine" "fault" "I") (pl_m 453 (by decide +kernel))) (fun _ h9 => h9) rfl dX1_runFromOutside_89 ?_
  refine lv_isub hx hb dX1_runFromOutside_92 ?_
  refine lv_topi (fun f_4 ef_4 => ?_)
  have ef_4 : f_4 = (-10001) := by rw [ef_4]; decide +kernel
  subst ef_4
  have hP9 := hP.sub (ws' := [(h0, .inr (1, [.ref t, .ref fi, .ref st, .ref kp, .ref m4, .ref m5, .ref m6, .int 0, .int 0, .int 0, .int 0, .int 1])), (t, .inr (3, [.int 0, .ref t1, .ref t2, .ref t3, .ref t4, .ref t5, .ref t6, .ref t7, .ref t8, .ref t9])), (st, .inr (2, [.int 0, .int 1, .long 0, .int 0, .int 0, .ref s5, .ref s6, .ref s7, .ref s8, .ref s9, .ref s10, .ref s11, .ref s12, .ref s13, .ref s14, .ref s15, .ref s16]))]) [1, 2, 0] rfl
  have hD9 := hD.sub (ws' := [(h0, .inr (1, [.ref t, .ref fi, .ref st, .ref kp, .ref m4, .ref m5, .ref m6, .int 0, .int 0, .int 0, .int 0, .int 1])), (t, .inr (3, [.int 0, .ref t1, .ref t2, .ref t3, .ref t4, .ref t5, .ref t6, .ref t7, .ref t8, .ref t9])), (st, .inr (2, [.int 0, .int 1, .long 0, .int 0, .int 0, .ref s5, .ref s6, .ref s7, .ref s8, .ref s9, .ref s10, .ref s11, .ref s12, .ref s13, .ref s14, .ref s15, .ref s16]))]) [1, 2, 0] (by decide) rfl
  exact W.iret (v := (-10001)) hx hb hr (fun tz_ ht hW => ⟨⟨(-10001), (), rfl, ⟨rfl, (by first | exact trivial | omega | (simp only [Int32.reduceToInt] at *; omega) | decide)⟩, (by rw [ht]; exact hP9), hD9⟩, hS.F ht⟩) hS.2.2 dX1_runFromOutside_93
set_option maxHeartbeats 4000000 in
set_option maxRecDepth 100000 in
theorem c_X1_runFromOutside_1 (l : Launch) (D : va_G) (cI cZ cJ cG : ClassId) (sz : Nat) (h0 : Nat) (t : Nat) (fi : Nat) (st : Nat) (kp : Nat) (m4 : Nat) (m5 : Nat) (m6 : Nat) (t1 : Nat) (t2 : Nat) (t3 : Nat) (t4 : Nat) (t5 : Nat) (t6 : Nat) (t7 : Nat) (t8 : Nat) (t9 : Nat) (s5 : Nat) (s6 : Nat) (s7 : Nat) (s8 : Nat) (s9 : Nat) (s10 : Nat) (s11 : Nat) (s12 : Nat) (s13 : Nat) (s14 : Nat) (s15 : Nat) (s16 : Nat) (fa : Int32) (p0 : Int32) (p1 : Int32) : Met l yX1_runFromOutside (pl_h yX1_runFromOutside cX1_runFromOutside 4 (some .int)) ({ frames := 2, cells := 0, slots := 0, locals := 45 }) (va_Pc [.ref h0, .int p0, .int p1] (pn_M D (pn_Y cI cZ cJ cG) [(h0, .inr (1, [.ref t, .ref fi, .ref st, .ref kp, .ref m4, .ref m5, .ref m6, .int 0, .int 0, .int 0, .int 0, .int fa])), (t, .inr (3, [.int 0, .ref t1, .ref t2, .ref t3, .ref t4, .ref t5, .ref t6, .ref t7, .ref t8, .ref t9])), (st, .inr (2, [.int 0, .int 1, .long 0, .int 0, .int 0, .ref s5, .ref s6, .ref s7, .ref s8, .ref s9, .ref s10, .ref s11, .ref s12, .ref s13, .ref s14, .ref s15, .ref s16]))] sz)) (va_Qi (fun (r : Int32) (u : Unit) => (r = (-10001) ∧ True)) (fun u tz_ => va_P D vwCl [(h0, .inr (1, [.ref t, .ref fi, .ref st, .ref kp, .ref m4, .ref m5, .ref m6, .int 0, .int 0, .int 0, .int 0, .int 1])), (t, .inr (3, [.int 0, .ref t1, .ref t2, .ref t3, .ref t4, .ref t5, .ref t6, .ref t7, .ref t8, .ref t9])), (st, .inr (2, [.int 0, .int 2, .long 0, .int 0, .int 0, .ref s5, .ref s6, .ref s7, .ref s8, .ref s9, .ref s10, .ref s11, .ref s12, .ref s13, .ref s14, .ref s15, .ref s16]))] tz_.heap ∧ va_D (va_A [(h0, .inr (1, [.ref t, .ref fi, .ref st, .ref kp, .ref m4, .ref m5, .ref m6, .int 0, .int 0, .int 0, .int 0, .int fa])), (t, .inr (3, [.int 0, .ref t1, .ref t2, .ref t3, .ref t4, .ref t5, .ref t6, .ref t7, .ref t8, .ref t9])), (st, .inr (2, [.int 0, .int 1, .long 0, .int 0, .int 0, .ref s5, .ref s6, .ref s7, .ref s8, .ref s9, .ref s10, .ref s11, .ref s12, .ref s13, .ref s14, .ref s15, .ref s16]))] sz) [(h0, .inr (1, [.ref t, .ref fi, .ref st, .ref kp, .ref m4, .ref m5, .ref m6, .int 0, .int 0, .int 0, .int 0, .int 1])), (t, .inr (3, [.int 0, .ref t1, .ref t2, .ref t3, .ref t4, .ref t5, .ref t6, .ref t7, .ref t8, .ref t9])), (st, .inr (2, [.int 0, .int 2, .long 0, .int 0, .int 0, .ref s5, .ref s6, .ref s7, .ref s8, .ref s9, .ref s10, .ref s11, .ref s12, .ref s13, .ref s14, .ref s15, .ref s16]))]) (va_A [(h0, .inr (1, [.ref t, .ref fi, .ref st, .ref kp, .ref m4, .ref m5, .ref m6, .int 0, .int 0, .int 0, .int 0, .int fa])), (t, .inr (3, [.int 0, .ref t1, .ref t2, .ref t3, .ref t4, .ref t5, .ref t6, .ref t7, .ref t8, .ref t9])), (st, .inr (2, [.int 0, .int 1, .long 0, .int 0, .int 0, .ref s5, .ref s6, .ref s7, .ref s8, .ref s9, .ref s10, .ref s11, .ref s12, .ref s13, .ref s14, .ref s15, .ref s16]))] sz)) 0 0 (va_A [(h0, .inr (1, [.ref t, .ref fi, .ref st, .ref kp, .ref m4, .ref m5, .ref m6, .int 0, .int 0, .int 0, .int 0, .int fa])), (t, .inr (3, [.int 0, .ref t1, .ref t2, .ref t3, .ref t4, .ref t5, .ref t6, .ref t7, .ref t8, .ref t9])), (st, .inr (2, [.int 0, .int 1, .long 0, .int 0, .int 0, .ref s5, .ref s6, .ref s7, .ref s8, .ref s9, .ref s10, .ref s11, .ref s12, .ref s13, .ref s14, .ref s15, .ref s16]))] sz) := by
  refine Met.ofW (cc := cX1_runFromOutside) (maxL := 4) (ret := (some .int)) (by decide) rfl ?_
  intro p e s m args below meth c s₁ B hml hv
  obtain ⟨rfl, hsz, hP, hK, hD0⟩ := hv
  have hx := B.exec
  have hb := B.bytes
  have hr := B.returns
  have hts0 := atoms_spec (ws := pl_h yX1_runFromOutside cX1_runFromOutside 4 (some .int)) B.pre
  have hts := fun (w : Cond) (h : w ∈ pw_all) => hts0 w (List.mem_cons_of_mem _ h)
  have hown : s.vm.findClass RX1 = some m.cls := findClass_of_methodNamed B.named
  have hlocks := B.notSynchronized
  subst hsz
  have hD := hD0.self (sz := s.heap.size)
  generalize hAe : va_A [(h0, .inr (1, [.ref t, .ref fi, .ref st, .ref kp, .ref m4, .ref m5, .ref m6, .int 0, .int 0, .int 0, .int 0, .int fa])), (t, .inr (3, [.int 0, .ref t1, .ref t2, .ref t3, .ref t4, .ref t5, .ref t6, .ref t7, .ref t8, .ref t9])), (st, .inr (2, [.int 0, .int 1, .long 0, .int 0, .int 0, .ref s5, .ref s6, .ref s7, .ref s8, .ref s9, .ref s10, .ref s11, .ref s12, .ref s13, .ref s14, .ref s15, .ref s16]))] s.heap.size = A at hD ⊢
  have hA : ∀ q : Nat, s.heap.size ≤ q → A q := fun q h => by rw [← hAe]; exact Or.inr h
  have hS : va_S A s.heap s.heap [] := va_S.rf
  have hl := lv_entry ([.ref h0, .int p0, .int p1]) (n := 4) (Nat.le_of_ble_eq_true rfl)
  rw [lg_entry_eq]
  generalize (lg_sl ([.ref h0, .int p0, .int p1]) ++ List.replicate (4 - (lg_sl ([.ref h0, .int p0, .int p1])).length) Slot.unset).toArray = ls at hl ⊢
  have hl : lv_has ls 4 [(0, .ref h0), (1, .int p0), (2, .int p1)] := hl
  refine lv_aload_n hx hb dX1_runFromOutside_0 rfl (lv_at hl 0 rfl) ?_
  refine lv_iconst (v := 0) hx hb dX1_runFromOutside_1 (by decide) ?_
  refine va_put (D := D) (ci := 1) (v := .int 0) (ty := .int) (C := RX1) (T := TX1) (N := 12) hx hb hts inlX1 tyX1 tyX1_ok nmX1 hown hK hP hD hS 0 rfl rfl 9 (by decide) (hts (.fieldLink RX1 53 "VtableTown$Machine" "steps" "I") (pl_m 452 (by decide +kernel))) (fun _ h9 => h9) rfl (by decide +kernel) rfl rfl (Nat.le_of_ble_eq_true rfl) dX1_runFromOutside_2 (fun H locs hP hD hS => ?_)
  have hP : va_P D vwCl [(h0, .inr (1, [.ref t, .ref fi, .ref st, .ref kp, .ref m4, .ref m5, .ref m6, .int 0, .int 0, .int 0, .int 0, .int fa])), (t, .inr (3, [.int 0, .ref t1, .ref t2, .ref t3, .ref t4, .ref t5, .ref t6, .ref t7, .ref t8, .ref t9])), (st, .inr (2, [.int 0, .int 1, .long 0, .int 0, .int 0, .ref s5, .ref s6, .ref s7, .ref s8, .ref s9, .ref s10, .ref s11, .ref s12, .ref s13, .ref s14, .ref s15, .ref s16]))] H := hP
  have hD : va_D (A) [(h0, .inr (1, [.ref t, .ref fi, .ref st, .ref kp, .ref m4, .ref m5, .ref m6, .int 0, .int 0, .int 0, .int 0, .int fa])), (t, .inr (3, [.int 0, .ref t1, .ref t2, .ref t3, .ref t4, .ref t5, .ref t6, .ref t7, .ref t8, .ref t9])), (st, .inr (2, [.int 0, .int 1, .long 0, .int 0, .int 0, .ref s5, .ref s6, .ref s7, .ref s8, .ref s9, .ref s10, .ref s11, .ref s12, .ref s13, .ref s14, .ref s15, .ref s16]))] := hD
  refine lv_aload_n hx hb dX1_runFromOutside_5 rfl (lv_at hl 0 rfl) ?_
  refine lv_iconst (v := 0) hx hb dX1_runFromOutside_6 (by decide) ?_
  refine va_put (D := D) (ci := 1) (v := .int 0) (ty := .int) (C := RX1) (T := TX1) (N := 12) hx hb hts inlX1 tyX1 tyX1_ok nmX1 hown hK hP hD hS 0 rfl rfl 10 (by decide) (hts (.fieldLink RX1 56 "VtableTown$Machine" "cost" "I") (pl_m 366 (by decide +kernel))) (fun _ h9 => h9) rfl (by decide +kernel) rfl rfl (Nat.le_of_ble_eq_true rfl) dX1_runFromOutside_7 (fun H locs hP hD hS => ?_)
  have hP : va_P D vwCl [(h0, .inr (1, [.ref t, .ref fi, .ref st, .ref kp, .ref m4, .ref m5, .ref m6, .int 0, .int 0, .int 0, .int 0, .int fa])), (t, .inr (3, [.int 0, .ref t1, .ref t2, .ref t3, .ref t4, .ref t5, .ref t6, .ref t7, .ref t8, .ref t9])), (st, .inr (2, [.int 0, .int 1, .long 0, .int 0, .int 0, .ref s5, .ref s6, .ref s7, .ref s8, .ref s9, .ref s10, .ref s11, .ref s12, .ref s13, .ref s14, .ref s15, .ref s16]))] H := hP
  have hD : va_D (A) [(h0, .inr (1, [.ref t, .ref fi, .ref st, .ref kp, .ref m4, .ref m5, .ref m6, .int 0, .int 0, .int 0, .int 0, .int fa])), (t, .inr (3, [.int 0, .ref t1, .ref t2, .ref t3, .ref t4, .ref t5, .ref t6, .ref t7, .ref t8, .ref t9])), (st, .inr (2, [.int 0, .int 1, .long 0, .int 0, .int 0, .ref s5, .ref s6, .ref s7, .ref s8, .ref s9, .ref s10, .ref s11, .ref s12, .ref s13, .ref s14, .ref s15, .ref s16]))] := hD
  refine lv_aload_n hx hb dX1_runFromOutside_10 rfl (lv_at hl 0 rfl) ?_
  refine lv_iconst (v := 0) hx hb dX1_runFromOutside_11 (by decide) ?_
  refine va_put (D := D) (ci := 1) (v := .int 0) (ty := .int) (C := RX1) (T := TX1) (N := 12) hx hb hts inlX1 tyX1 tyX1_ok nmX1 hown hK hP hD hS 0 rfl rfl 11 (by decide) (hts (.fieldLink RX1 59 "VtableTown$Machine" "fault" "I") (pl_m 453 (by decide +kernel))) (fun _ h9 => h9) rfl (by decide +kernel) rfl rfl (Nat.le_of_ble_eq_true rfl) dX1_runFromOutside_12 (fun H locs hP hD hS => ?_)
  have hP : va_P D vwCl [(h0, .inr (1, [.ref t, .ref fi, .ref st, .ref kp, .ref m4, .ref m5, .ref m6, .int 0, .int 0, .int 0, .int 0, .int 0])), (t, .inr (3, [.int 0, .ref t1, .ref t2, .ref t3, .ref t4, .ref t5, .ref t6, .ref t7, .ref t8, .ref t9])), (st, .inr (2, [.int 0, .int 1, .long 0, .int 0, .int 0, .ref s5, .ref s6, .ref s7, .ref s8, .ref s9, .ref s10, .ref s11, .ref s12, .ref s13, .ref s14, .ref s15, .ref s16]))] H := hP
  have hD : va_D (A) [(h0, .inr (1, [.ref t, .ref fi, .ref st, .ref kp, .ref m4, .ref m5, .ref m6, .int 0, .int 0, .int 0, .int 0, .int 0])), (t, .inr (3, [.int 0, .ref t1, .ref t2, .ref t3, .ref t4, .ref t5, .ref t6, .ref t7, .ref t8, .ref t9])), (st, .inr (2, [.int 0, .int 1, .long 0, .int 0, .int 0, .ref s5, .ref s6, .ref s7, .ref s8, .ref s9, .ref s10, .ref s11, .ref s12, .ref s13, .ref s14, .ref s15, .ref s16]))] := hD
  refine lv_aload_n hx hb dX1_runFromOutside_15 rfl (lv_at hl 0 rfl) ?_
  refine lv_iload_n hx hb dX1_runFromOutside_16 rfl (lv_at hl 1 rfl) ?_
  refine lv_iload_n hx hb dX1_runFromOutside_17 rfl (lv_at hl 2 rfl) ?_
  have hPc := hP.sub (ws' := [(h0, .inr (1, [.ref t, .ref fi, .ref st, .ref kp, .ref m4, .ref m5, .ref m6, .int 0, .int 0, .int 0, .int 0, .int 0])), (t, .inr (3, [.int 0, .ref t1, .ref t2, .ref t3, .ref t4, .ref t5, .ref t6, .ref t7, .ref t8, .ref t9]))]) [0, 1] rfl
  have hDc := hD.sub (ws' := [(h0, .inr (1, [.ref t, .ref fi, .ref st, .ref kp, .ref m4, .ref m5, .ref m6, .int 0, .int 0, .int 0, .int 0, .int 0])), (t, .inr (3, [.int 0, .ref t1, .ref t2, .ref t3, .ref t4, .ref t5, .ref t6, .ref t7, .ref t8, .ref t9]))]) [0, 1] (by decide) rfl
  refine pn_mi (w1 := fun (u : Unit) => [(h0, .inr (1, [.ref t, .ref fi, .ref st, .ref kp, .ref m4, .ref m5, .ref m6, .int 0, .int 0, .int 0, .int 0, .int 1])), (t, .inr (3, [.int 0, .ref t1, .ref t2, .ref t3, .ref t4, .ref t5, .ref t6, .ref t7, .ref t8, .ref t9]))]) (wr := [(st, .inr (2, [.int 0, .int 1, .long 0, .int 0, .int 0, .ref s5, .ref s6, .ref s7, .ref s8, .ref s9, .ref s10, .ref s11, .ref s12, .ref s13, .ref s14, .ref s15, .ref s16]))]) (wc := [(h0, .inr (1, [.ref t, .ref fi, .ref st, .ref kp, .ref m4, .ref m5, .ref m6, .int 0, .int 0, .int 0, .int 0, .int 0])), (t, .inr (3, [.int 0, .ref t1, .ref t2, .ref t3, .ref t4, .ref t5, .ref t6, .ref t7, .ref t8, .ref t9]))]) [0, 1] [2] (va_runV (As := [.int p0, .int p1]) (rest := []) ⟨hx, hb, hml, hown, hts⟩ (c_X1_makeAndCall l D cI cZ cJ cG H.size h0 t fi st kp m4 m5 m6 t1 t2 t3 t4 t5 t6 t7 t8 t9 0 p0 p1) (cwV 2 hts (pl_V (pl_m 458 (by decide +kernel)) (pl_m 459 (by decide +kernel)) (pl_m 460 (by decide +kernel)) (pl_m 27 (by decide +kernel)) (pl_m 461 (by decide +kernel))) rfl rfl rfl (by decide +kernel) ⟨(Nat.le_of_ble_eq_true rfl), (Nat.le_of_ble_eq_true rfl)⟩) ⟨pn_M_blind, va_recv hK hPc (ci := 1) (q0 := 0) rfl rfl, (pn_M_at hPc hDc hK)⟩ rfl rfl hl.1 rfl (lv_room (Nat.le_of_ble_eq_true rfl)) dX1_runFromOutside_18 ⟨(Nat.le_of_ble_eq_true rfl), (Nat.le_of_ble_eq_true rfl)⟩) hS hA hP hD rfl rfl (by decide) (by decide) (fun r_1 u_1 H locs hw hP hD hS => ?_)
  have hP : va_P D vwCl [(st, .inr (2, [.int 0, .int 1, .long 0, .int 0, .int 0, .ref s5, .ref s6, .ref s7, .ref s8, .ref s9, .ref s10, .ref s11, .ref s12, .ref s13, .ref s14, .ref s15, .ref s16])), (h0, .inr (1, [.ref t, .ref fi, .ref st, .ref kp, .ref m4, .ref m5, .ref m6, .int 0, .int 0, .int 0, .int 0, .int 1])), (t, .inr (3, [.int 0, .ref t1, .ref t2, .ref t3, .ref t4, .ref t5, .ref t6, .ref t7, .ref t8, .ref t9]))] H := hP
  have hD : va_D (A) [(st, .inr (2, [.int 0, .int 1, .long 0, .int 0, .int 0, .ref s5, .ref s6, .ref s7, .ref s8, .ref s9, .ref s10, .ref s11, .ref s12, .ref s13, .ref s14, .ref s15, .ref s16])), (h0, .inr (1, [.ref t, .ref fi, .ref st, .ref kp, .ref m4, .ref m5, .ref m6, .int 0, .int 0, .int 0, .int 0, .int 1])), (t, .inr (3, [.int 0, .ref t1, .ref t2, .ref t3, .ref t4, .ref t5, .ref t6, .ref t7, .ref t8, .ref t9]))] := hD
  obtain ⟨rfl, hw⟩ := hw
  try simp only [Int32.reduceToInt] at hw
  refine lv_istore_n (lv' := [(3, .int 0), (0, .ref h0), (1, .int p0), (2, .int p1)]) hx hb dX1_runFromOutside_21 rfl hl (by decide) rfl (fun ls hl => ?_)
  refine lv_aload_n hx hb dX1_runFromOutside_22 rfl (lv_at hl 1 rfl) ?_
  refine va_get (D := D) (ci := 1) (v := .ref st) (C := RX1) (T := TX1) (N := 12) hx hb hts inlX1 hown hK hP 1 rfl rfl 2 (by decide) (hts (.fieldLink RX1 36 "VtableTown$Machine" "state" "LVtableTown$State;") (pl_m 78 (by decide +kernel))) (fun _ h9 => h9) rfl dX1_runFromOutside_23 ?_
  refine lv_dup hx hb dX1_runFromOutside_26 rfl ?_
  refine va_get (D := D) (ci := 2) (v := .int 1) (C := RX2) (T := TX2) (N := 17) hx hb hts inlX2 hown hK hP 0 rfl rfl 1 (by decide) (hts (.fieldLink RX1 66 "VtableTown$State" "runs" "I") (pl_m 454 (by decide +kernel))) (fun _ h9 => h9) rfl dX1_runFromOutside_27 ?_
  refine lv_iconst (v := 1) hx hb dX1_runFromOutside_30 (by decide) ?_
  refine lv_iadd hx hb dX1_runFromOutside_31 ?_
  refine lv_topi (fun f_2 ef_2 => ?_)
  have ef_2 : f_2 = 2 := by rw [ef_2]; decide +kernel
  subst ef_2
  refine va_put (D := D) (ci := 2) (v := .int 2) (ty := .int) (C := RX2) (T := TX2) (N := 17) hx hb hts inlX2 tyX2 tyX2_ok nmX2 hown hK hP hD hS 0 rfl rfl 1 (by decide) (hts (.fieldLink RX1 66 "VtableTown$State" "runs" "I") (pl_m 454 (by decide +kernel))) (fun _ h9 => h9) rfl (by decide +kernel) rfl rfl (Nat.le_of_ble_eq_true rfl) dX1_runFromOutside_32 (fun H locs hP hD hS => ?_)
  have hP : va_P D vwCl [(st, .inr (2, [.int 0, .int 2, .long 0, .int 0, .int 0, .ref s5, .ref s6, .ref s7, .ref s8, .ref s9, .ref s10, .ref s11, .ref s12, .ref s13, .ref s14, .ref s15, .ref s16])), (h0, .inr (1, [.ref t, .ref fi, .ref st, .ref kp, .ref m4, .ref m5, .ref m6, .int 0, .int 0, .int 0, .int 0, .int 1])), (t, .inr (3, [.int 0, .ref t1, .ref t2, .ref t3, .ref t4, .ref t5, .ref t6, .ref t7, .ref t8, .ref t9]))] H := hP
  have hD : va_D (A) [(st, .inr (2, [.int 0, .int 2, .long 0, .int 0, .int 0, .ref s5, .ref s6, .ref s7, .ref s8, .ref s9, .ref s10, .ref s11, .ref s12, .ref s13, .ref s14, .ref s15, .ref s16])), (h0, .inr (1, [.ref t, .ref fi, .ref st, .ref kp, .ref m4, .ref m5, .ref m6, .int 0, .int 0, .int 0, .int 0, .int 1])), (t, .inr (3, [.int 0, .ref t1, .ref t2, .ref t3, .ref t4, .ref t5, .ref t6, .ref t7, .ref t8, .ref t9]))] := hD
  refine lv_aload_n hx hb dX1_runFromOutside_35 rfl (lv_at hl 1 rfl) ?_
  refine va_get (D := D) (ci := 1) (v := .ref st) (C := RX1) (T := TX1) (N := 12) hx hb hts inlX1 hown hK hP 1 rfl rfl 2 (by decide) (hts (.fieldLink RX1 36 "VtableTown$Machine" "state" "LVtableTown$State;") (pl_m 78 (by decide +kernel))) (fun _ h9 => h9) rfl dX1_runFromOutside_36 ?_
  refine lv_dup hx hb dX1_runFromOutside_39 rfl ?_
  refine va_get (D := D) (ci := 2) (v := .long 0) (C := RX2) (T := TX2) (N := 17) hx hb hts inlX2 hown hK hP 0 rfl rfl 2 (by decide) (hts (.fieldLink RX1 69 "VtableTown$State" "costs" "J") (pl_m 455 (by decide +kernel))) (fun _ h9 => h9) rfl dX1_runFromOutside_40 ?_
  refine lv_aload_n hx hb dX1_runFromOutside_43 rfl (lv_at hl 1 rfl) ?_
  refine va_get (D := D) (ci := 1) (v := .int 0) (C := RX1) (T := TX1) (N := 12) hx hb hts inlX1 hown hK hP 1 rfl rfl 10 (by decide) (hts (.fieldLink RX1 56 "VtableTown$Machine" "cost" "I") (pl_m 366 (by decide +kernel))) (fun _ h9 => h9) rfl dX1_runFromOutside_44 ?_
  refine lv_i2l (v := 0) hx hb dX1_runFromOutside_47 (by decide +kernel) ?_
  refine lv_ladd hx hb dX1_runFromOutside_48 ?_
  refine lv_topl (fun f_3 ef_3 => ?_)
  have ef_3 : f_3 = 0 := by rw [ef_3]; decide +kernel
  subst ef_3
  refine va_put (D := D) (ci := 2) (v := .long 0) (ty := .long) (C := RX2) (T := TX2) (N := 17) hx hb hts inlX2 tyX2 tyX2_ok nmX2 hown hK hP hD hS 0 rfl rfl 2 (by decide) (hts (.fieldLink RX1 69 "VtableTown$State" "costs" "J") (pl_m 455 (by decide +kernel))) (fun _ h9 => h9) rfl (by decide +kernel) rfl rfl (Nat.le_of_ble_eq_true rfl) dX1_runFromOutside_49 (fun H locs hP hD hS => ?_)
  have hP : va_P D vwCl [(st, .inr (2, [.int 0, .int 2, .long 0, .int 0, .int 0, .ref s5, .ref s6, .ref s7, .ref s8, .ref s9, .ref s10, .ref s11, .ref s12, .ref s13, .ref s14, .ref s15, .ref s16])), (h0, .inr (1, [.ref t, .ref fi, .ref st, .ref kp, .ref m4, .ref m5, .ref m6, .int 0, .int 0, .int 0, .int 0, .int 1])), (t, .inr (3, [.int 0, .ref t1, .ref t2, .ref t3, .ref t4, .ref t5, .ref t6, .ref t7, .ref t8, .ref t9]))] H := hP
  have hD : va_D (A) [(st, .inr (2, [.int 0, .int 2, .long 0, .int 0, .int 0, .ref s5, .ref s6, .ref s7, .ref s8, .ref s9, .ref s10, .ref s11, .ref s12, .ref s13, .ref s14, .ref s15, .ref s16])), (h0, .inr (1, [.ref t, .ref fi, .ref st, .ref kp, .ref m4, .ref m5, .ref m6, .int 0, .int 0, .int 0, .int 0, .int 1])), (t, .inr (3, [.int 0, .ref t1, .ref t2, .ref t3, .ref t4, .ref t5, .ref t6, .ref t7, .ref t8, .ref t9]))] := hD
  refine lv_aload_n hx hb dX1_runFromOutside_52 rfl (lv_at hl 1 rfl) ?_
  refine va_get (D := D) (ci := 1) (v := .ref st) (C := RX1) (T := TX1) (N := 12) hx hb hts inlX1 hown hK hP 1 rfl rfl 2 (by decide) (hts (.fieldLink RX1 36 "VtableTown$Machine" "state" "LVtableTown$State;") (pl_m 78 (by decide +kernel))) (fun _ h9 => h9) rfl dX1_runFromOutside_53 ?_
  refine lv_aload_n hx hb dX1_runFromOutside_56 rfl (lv_at hl 1 rfl) ?_
  refine va_get (D := D) (ci := 1) (v := .int 0) (C := RX1) (T := TX1) (N := 12) hx hb hts inlX1 hown hK hP 1 rfl rfl 10 (by decide) (hts (.fieldLink RX1 56 "VtableTown$Machine" "cost" "I") (pl_m 366 (by decide +kernel))) (fun _ h9 => h9) rfl dX1_runFromOutside_57 ?_
  refine va_put (D := D) (ci := 2) (v := .int 0) (ty := .int) (C := RX2) (T := TX2) (N := 17) hx hb hts inlX2 tyX2 tyX2_ok nmX2 hown hK hP hD hS 0 rfl rfl 3 (by decide) (hts (.fieldLink RX1 73 "VtableTown$State" "lastCost" "I") (pl_m 456 (by decide +kernel))) (fun _ h9 => h9) rfl (by decide +kernel) rfl rfl (Nat.le_of_ble_eq_true rfl) dX1_runFromOutside_60 (fun H locs hP hD hS => ?_)
  have hP : va_P D vwCl [(st, .inr (2, [.int 0, .int 2, .long 0, .int 0, .int 0, .ref s5, .ref s6, .ref s7, .ref s8, .ref s9, .ref s10, .ref s11, .ref s12, .ref s13, .ref s14, .ref s15, .ref s16])), (h0, .inr (1, [.ref t, .ref fi, .ref st, .ref kp, .ref m4, .ref m5, .ref m6, .int 0, .int 0, .int 0, .int 0, .int 1])), (t, .inr (3, [.int 0, .ref t1, .ref t2, .ref t3, .ref t4, .ref t5, .ref t6, .ref t7, .ref t8, .ref t9]))] H := hP
  have hD : va_D (A) [(st, .inr (2, [.int 0, .int 2, .long 0, .int 0, .int 0, .ref s5, .ref s6, .ref s7, .ref s8, .ref s9, .ref s10, .ref s11, .ref s12, .ref s13, .ref s14, .ref s15, .ref s16])), (h0, .inr (1, [.ref t, .ref fi, .ref st, .ref kp, .ref m4, .ref m5, .ref m6, .int 0, .int 0, .int 0, .int 0, .int 1])), (t, .inr (3, [.int 0, .ref t1, .ref t2, .ref t3, .ref t4, .ref t5, .ref t6, .ref t7, .ref t8, .ref t9]))] := hD
  refine lv_aload_n hx hb dX1_runFromOutside_63 rfl (lv_at hl 1 rfl) ?_
  refine va_get (D := D) (ci := 1) (v := .ref st) (C := RX1) (T := TX1) (N := 12) hx hb hts inlX1 hown hK hP 1 rfl rfl 2 (by decide) (hts (.fieldLink RX1 36 "VtableTown$Machine" "state" "LVtableTown$State;") (pl_m 78 (by decide +kernel))) (fun _ h9 => h9) rfl dX1_runFromOutside_64 ?_
  refine lv_aload_n hx hb dX1_runFromOutside_67 rfl (lv_at hl 1 rfl) ?_
  refine va_get (D := D) (ci := 1) (v := .int 0) (C := RX1) (T := TX1) (N := 12) hx hb hts inlX1 hown hK hP 1 rfl rfl 9 (by decide) (hts (.fieldLink RX1 53 "VtableTown$Machine" "steps" "I") (pl_m 452 (by decide +kernel))) (fun _ h9 => h9) rfl dX1_runFromOutside_68 ?_
  refine va_put (D := D) (ci := 2) (v := .int 0) (ty := .int) (C := RX2) (T := TX2) (N := 17) hx hb hts inlX2 tyX2 tyX2_ok nmX2 hown hK hP hD hS 0 rfl rfl 4 (by decide) (hts (.fieldLink RX1 76 "VtableTown$State" "lastSteps" "I") (pl_m 457 (by decide +kernel))) (fun _ h9 => h9) rfl (by decide +kernel) rfl rfl (Nat.le_of_ble_eq_true rfl) dX1_runFromOutside_71 (fun H locs hP hD hS => ?_)
  have hP : va_P D vwCl [(st, .inr (2, [.int 0, .int 2, .long 0, .int 0, .int 0, .ref s5, .ref s6, .ref s7, .ref s8, .ref s9, .ref s10, .ref s11, .ref s12, .ref s13, .ref s14, .ref s15, .ref s16])), (h0, .inr (1, [.ref t, .ref fi, .ref st, .ref kp, .ref m4, .ref m5, .ref m6, .int 0, .int 0, .int 0, .int 0, .int 1])), (t, .inr (3, [.int 0, .ref t1, .ref t2, .ref t3, .ref t4, .ref t5, .ref t6, .ref t7, .ref t8, .ref t9]))] H := hP
  have hD : va_D (A) [(st, .inr (2, [.int 0, .int 2, .long 0, .int 0, .int 0, .ref s5, .ref s6, .ref s7, .ref s8, .ref s9, .ref s10, .ref s11, .ref s12, .ref s13, .ref s14, .ref s15, .ref s16])), (h0, .inr (1, [.ref t, .ref fi, .ref st, .ref kp, .ref m4, .ref m5, .ref m6, .int 0, .int 0, .int 0, .int 0, .int 1])), (t, .inr (3, [.int 0, .ref t1, .ref t2, .ref t3, .ref t4, .ref t5, .ref t6, .ref t7, .ref t8, .ref t9]))] := hD
  refine lv_aload_n hx hb dX1_runFromOutside_74 rfl (lv_at hl 1 rfl) ?_
  refine va_get (D := D) (ci := 1) (v := .int 1) (C := RX1) (T := TX1) (N := 12) hx hb hts inlX1 hown hK hP 1 rfl rfl 11 (by decide) (hts (.fieldLink RX1 59 "VtableTown$Machine" "fault" "I") (pl_m 453 (by decide +kernel))) (fun _ h9 => h9) rfl dX1_runFromOutside_75 ?_
  refine lv_if_ne (tgt := 85) hx hb dX1_runFromOutside_78 (by decide) (fun _ => ?_) (fun h9 => absurd h9 (by decide))
  refine lv_sipush (v := (-10000)) hx hb dX1_runFromOutside_85 (by decide) ?_
  refine lv_aload_n hx hb dX1_runFromOutside_88 rfl (lv_at hl 1 rfl) ?_
  refine va_get (D := D) (ci := 1) (v := .int 1) (C := RX1) (T := TX1) (N := 12) hx hb hts inlX1 hown hK hP 1 rfl rfl 11 (by decide) (hts (.fieldLink RX1 59 "VtableTown$Machine" "fault" "I") (pl_m 453 (by decide +kernel))) (fun _ h9 => h9) rfl dX1_runFromOutside_89 ?_
  refine lv_isub hx hb dX1_runFromOutside_92 ?_
  refine lv_topi (fun f_4 ef_4 => ?_)
  have ef_4 : f_4 = (-10001) := by rw [ef_4]; decide +kernel
  subst ef_4
  have hP9 := hP.sub (ws' := [(h0, .inr (1, [.ref t, .ref fi, .ref st, .ref kp, .ref m4, .ref m5, .ref m6, .int 0, .int 0, .int 0, .int 0, .int 1])), (t, .inr (3, [.int 0, .ref t1, .ref t2, .ref t3, .ref t4, .ref t5, .ref t6, .ref t7, .ref t8, .ref t9])), (st, .inr (2, [.int 0, .int 2, .long 0, .int 0, .int 0, .ref s5, .ref s6, .ref s7, .ref s8, .ref s9, .ref s10, .ref s11, .ref s12, .ref s13, .ref s14, .ref s15, .ref s16]))]) [1, 2, 0] rfl
  have hD9 := hD.sub (ws' := [(h0, .inr (1, [.ref t, .ref fi, .ref st, .ref kp, .ref m4, .ref m5, .ref m6, .int 0, .int 0, .int 0, .int 0, .int 1])), (t, .inr (3, [.int 0, .ref t1, .ref t2, .ref t3, .ref t4, .ref t5, .ref t6, .ref t7, .ref t8, .ref t9])), (st, .inr (2, [.int 0, .int 2, .long 0, .int 0, .int 0, .ref s5, .ref s6, .ref s7, .ref s8, .ref s9, .ref s10, .ref s11, .ref s12, .ref s13, .ref s14, .ref s15, .ref s16]))]) [1, 2, 0] (by decide) rfl
  exact W.iret (v := (-10001)) hx hb hr (fun tz_ ht hW => ⟨⟨(-10001), (), rfl, ⟨rfl, (by first | exact trivial | omega | (simp only [Int32.reduceToInt] at *; omega) | decide)⟩, (by rw [ht]; exact hP9), hD9⟩, hS.F ht⟩) hS.2.2 dX1_runFromOutside_93
set_option maxHeartbeats 4000000 in
set_option maxRecDepth 100000 in
theorem c_X4_run (l : Launch) (D : va_G) (cI cZ cJ cG : ClassId) (sz : Nat) (h0 : Nat) (t : Nat) (fi : Nat) (st : Nat) (mc : Nat) (kp : Nat) (m4 : Nat) (m5 : Nat) (m6 : Nat) (t1 : Nat) (t2 : Nat) (t3 : Nat) (t4 : Nat) (t5 : Nat) (t6 : Nat) (t7 : Nat) (t8 : Nat) (t9 : Nat) (s5 : Nat) (s6 : Nat) (s7 : Nat) (s8 : Nat) (s9 : Nat) (s10 : Nat) (s11 : Nat) (s12 : Nat) (s13 : Nat) (s14 : Nat) (s15 : Nat) (s16 : Nat) (fa : Int32) (p0 : Int32) (p1 : Int32) (hst : l.stackTraces = false) : vx_Met l yX4_run (pl_h yX4_run cX4_run 3 (some .int)) ({ frames := 8, cells := 2, slots := 12, locals := 123 }) (va_Pc [.ref h0, .int p0, .int p1] (pn_X D (pn_Y cI cZ cJ cG) [(h0, .inr (4, [.ref t, .ref fi, .ref st, .ref mc])), (mc, .inr (1, [.ref t, .ref fi, .ref st, .ref kp, .ref m4, .ref m5, .ref m6, .int 0, .int 0, .int 0, .int 0, .int fa])), (t, .inr (3, [.int 0, .ref t1, .ref t2, .ref t3, .ref t4, .ref t5, .ref t6, .ref t7, .ref t8, .ref t9])), (st, .inr (2, [.int 0, .int 0, .long 0, .int 0, .int 0, .ref s5, .ref s6, .ref s7, .ref s8, .ref s9, .ref s10, .ref s11, .ref s12, .ref s13, .ref s14, .ref s15, .ref s16]))] (va_A [(h0, .inr (4, [.ref t, .ref fi, .ref st, .ref mc])), (mc, .inr (1, [.ref t, .ref fi, .ref st, .ref kp, .ref m4, .ref m5, .ref m6, .int 0, .int 0, .int 0, .int 0, .int fa])), (t, .inr (3, [.int 0, .ref t1, .ref t2, .ref t3, .ref t4, .ref t5, .ref t6, .ref t7, .ref t8, .ref t9])), (st, .inr (2, [.int 0, .int 0, .long 0, .int 0, .int 0, .ref s5, .ref s6, .ref s7, .ref s8, .ref s9, .ref s10, .ref s11, .ref s12, .ref s13, .ref s14, .ref s15, .ref s16]))] sz) sz)) (va_Qi (fun (r : Int32) (u : Unit) => (r = (-10001) ∧ (0 ≤ p0.toInt ∧ p0.toInt ≤ 11 ∧ 1 ≤ p1.toInt ∧ p1.toInt ≤ 5))) (fun _ _ => True) (va_A [(h0, .inr (4, [.ref t, .ref fi, .ref st, .ref mc])), (mc, .inr (1, [.ref t, .ref fi, .ref st, .ref kp, .ref m4, .ref m5, .ref m6, .int 0, .int 0, .int 0, .int 0, .int fa])), (t, .inr (3, [.int 0, .ref t1, .ref t2, .ref t3, .ref t4, .ref t5, .ref t6, .ref t7, .ref t8, .ref t9])), (st, .inr (2, [.int 0, .int 0, .long 0, .int 0, .int 0, .ref s5, .ref s6, .ref s7, .ref s8, .ref s9, .ref s10, .ref s11, .ref s12, .ref s13, .ref s14, .ref s15, .ref s16]))] sz)) (vx_X (fun _ : Unit => True) (fun E _ _ => (E = "java/lang/IndexOutOfBoundsException" ∧ (p0.toInt < 0 ∨ 11 < p0.toInt ∨ p1.toInt < 1 ∨ 5 < p1.toInt))) (va_A [(h0, .inr (4, [.ref t, .ref fi, .ref st, .ref mc])), (mc, .inr (1, [.ref t, .ref fi, .ref st, .ref kp, .ref m4, .ref m5, .ref m6, .int 0, .int 0, .int 0, .int 0, .int fa])), (t, .inr (3, [.int 0, .ref t1, .ref t2, .ref t3, .ref t4, .ref t5, .ref t6, .ref t7, .ref t8, .ref t9])), (st, .inr (2, [.int 0, .int 0, .long 0, .int 0, .int 0, .ref s5, .ref s6, .ref s7, .ref s8, .ref s9, .ref s10, .ref s11, .ref s12, .ref s13, .ref s14, .ref s15, .ref s16]))] sz)) 2 12 (va_A [(h0, .inr (4, [.ref t, .ref fi, .ref st, .ref mc])), (mc, .inr (1, [.ref t, .ref fi, .ref st, .ref kp, .ref m4, .ref m5, .ref m6, .int 0, .int 0, .int 0, .int 0, .int fa])), (t, .inr (3, [.int 0, .ref t1, .ref t2, .ref t3, .ref t4, .ref t5, .ref t6, .ref t7, .ref t8, .ref t9])), (st, .inr (2, [.int 0, .int 0, .long 0, .int 0, .int 0, .ref s5, .ref s6, .ref s7, .ref s8, .ref s9, .ref s10, .ref s11, .ref s12, .ref s13, .ref s14, .ref s15, .ref s16]))] sz) := by
  refine vx_ofW (cc := cX4_run) (maxL := 3) (ret := (some .int)) (by decide) rfl ?_
  intro p e s m args below meth c s₁ B hml hout hv
  obtain ⟨rfl, ⟨hsz, hP, hK, hD0⟩, hZ, hT⟩ := hv
  have hx := B.exec
  have hb := B.bytes
  have hr := B.returns
  have hts0 := atoms_spec (ws := pl_h yX4_run cX4_run 3 (some .int)) B.pre
  have hts := fun (w : Cond) (h : w ∈ pw_all) => hts0 w (List.mem_cons_of_mem _ h)
  have hown : s.vm.findClass RX4 = some m.cls := findClass_of_methodNamed B.named
  have hlocks := B.notSynchronized
  subst hsz
  have hD := hD0.self (sz := s.heap.size)
  generalize hAe : va_A [(h0, .inr (4, [.ref t, .ref fi, .ref st, .ref mc])), (mc, .inr (1, [.ref t, .ref fi, .ref st, .ref kp, .ref m4, .ref m5, .ref m6, .int 0, .int 0, .int 0, .int 0, .int fa])), (t, .inr (3, [.int 0, .ref t1, .ref t2, .ref t3, .ref t4, .ref t5, .ref t6, .ref t7, .ref t8, .ref t9])), (st, .inr (2, [.int 0, .int 0, .long 0, .int 0, .int 0, .ref s5, .ref s6, .ref s7, .ref s8, .ref s9, .ref s10, .ref s11, .ref s12, .ref s13, .ref s14, .ref s15, .ref s16]))] s.heap.size = A at hZ hD ⊢
  have hA : ∀ q : Nat, s.heap.size ≤ q → A q := fun q h => by rw [← hAe]; exact Or.inr h
  have hS : va_S A s.heap s.heap [] := va_S.rf
  have hl := lv_entry ([.ref h0, .int p0, .int p1]) (n := 3) (Nat.le_of_ble_eq_true rfl)
  rw [lg_entry_eq]
  generalize (lg_sl ([.ref h0, .int p0, .int p1]) ++ List.replicate (3 - (lg_sl ([.ref h0, .int p0, .int p1])).length) Slot.unset).toArray = ls at hl ⊢
  have hl : lv_has ls 3 [(0, .ref h0), (1, .int p0), (2, .int p1)] := hl
  refine lv_iload_n hx hb dX4_run_0 rfl (lv_at hl 1 rfl) ?_
  refine lv_iload_n hx hb dX4_run_1 rfl (lv_at hl 2 rfl) ?_
  have hPc := hP.sub (ws' := []) [] rfl
  have hDc := hD.sub (ws' := []) [] (by decide) rfl
  refine pn_xv (vx_runS (As := [.int p0, .int p1]) (rest := []) ⟨hx, hb, hml, hown, hts⟩ (c_X4_checkNumberAndName l D cI cZ cJ cG s.heap.size p0 p1 hst) (va_cwS 2 hts (pl_S (pl_m 445 (by decide +kernel)) (pl_m 446 (by decide +kernel)) (pl_m 2 (by decide +kernel)) (pl_m 447 (by decide +kernel))) rfl rfl rfl (by decide +kernel) ⟨(Nat.le_of_ble_eq_true rfl), (Nat.le_of_ble_eq_true rfl)⟩) ⟨pn_X_blind, (pn_X_at hPc hDc hK hS hZ hT (fun q h => pn_NA hS hA q h))⟩ rfl rfl hl.1 rfl (lv_room (Nat.le_of_ble_eq_true rfl)) dX4_run_2 ⟨(Nat.le_of_ble_eq_true rfl), (Nat.le_of_ble_eq_true rfl)⟩) hS hA hP (fun E ce q9 H locs hE hP hS h1 h2 h3 => ?_) (fun H locs hw hP hS => ?_)
  · refine pn_out (XE' := fun E => (E = "java/lang/IndexOutOfBoundsException" ∧ (p0.toInt < 0 ∨ 11 < p0.toInt ∨ p1.toInt < 1 ∨ 5 < p1.toInt))) hout hlocks hS ?_ h1 h2 h3 (Nat.le_of_ble_eq_true rfl) (Nat.le_of_ble_eq_true rfl)
    rcases hE with ⟨rfl, hE⟩
    · exact ⟨rfl, (by first | exact trivial | omega | (simp only [Int32.reduceToInt] at *; omega) | decide)⟩
  · have hP : va_P D vwCl [(h0, .inr (4, [.ref t, .ref fi, .ref st, .ref mc])), (mc, .inr (1, [.ref t, .ref fi, .ref st, .ref kp, .ref m4, .ref m5, .ref m6, .int 0, .int 0, .int 0, .int 0, .int fa])), (t, .inr (3, [.int 0, .ref t1, .ref t2, .ref t3, .ref t4, .ref t5, .ref t6, .ref t7, .ref t8, .ref t9])), (st, .inr (2, [.int 0, .int 0, .long 0, .int 0, .int 0, .ref s5, .ref s6, .ref s7, .ref s8, .ref s9, .ref s10, .ref s11, .ref s12, .ref s13, .ref s14, .ref s15, .ref s16]))] H := hP
    refine W.widen (k := 2) (n := 12) (Nat.le_of_ble_eq_true rfl) (Nat.le_of_ble_eq_true rfl) ?_
    refine lv_aload_n hx hb dX4_run_5 rfl (lv_at hl 0 rfl) ?_
    refine va_get (D := D) (ci := 4) (v := .ref mc) (C := RX4) (T := TX4) (N := 4) hx hb hts inlX4 hown hK hP 0 rfl rfl 3 (by decide) (hts (.fieldLink RX4 37 "VtableTown" "machine" "LVtableTown$Machine;") (pl_m 28 (by decide +kernel))) (fun _ h9 => h9) rfl dX4_run_6 ?_
    refine lv_iload_n hx hb dX4_run_9 rfl (lv_at hl 1 rfl) ?_
    refine lv_iload_n hx hb dX4_run_10 rfl (lv_at hl 2 rfl) ?_
    have hPc := hP.sub (ws' := [(mc, .inr (1, [.ref t, .ref fi, .ref st, .ref kp, .ref m4, .ref m5, .ref m6, .int 0, .int 0, .int 0, .int 0, .int fa])), (t, .inr (3, [.int 0, .ref t1, .ref t2, .ref t3, .ref t4, .ref t5, .ref t6, .ref t7, .ref t8, .ref t9])), (st, .inr (2, [.int 0, .int 0, .long 0, .int 0, .int 0, .ref s5, .ref s6, .ref s7, .ref s8, .ref s9, .ref s10, .ref s11, .ref s12, .ref s13, .ref s14, .ref s15, .ref s16]))]) [1, 2, 3] rfl
    have hDc := hD.sub (ws' := [(mc, .inr (1, [.ref t, .ref fi, .ref st, .ref kp, .ref m4, .ref m5, .ref m6, .int 0, .int 0, .int 0, .int 0, .int fa])), (t, .inr (3, [.int 0, .ref t1, .ref t2, .ref t3, .ref t4, .ref t5, .ref t6, .ref t7, .ref t8, .ref t9])), (st, .inr (2, [.int 0, .int 0, .long 0, .int 0, .int 0, .ref s5, .ref s6, .ref s7, .ref s8, .ref s9, .ref s10, .ref s11, .ref s12, .ref s13, .ref s14, .ref s15, .ref s16]))]) [1, 2, 3] (by decide) rfl
    refine pn_mi (w1 := fun (u : Unit) => [(mc, .inr (1, [.ref t, .ref fi, .ref st, .ref kp, .ref m4, .ref m5, .ref m6, .int 0, .int 0, .int 0, .int 0, .int 1])), (t, .inr (3, [.int 0, .ref t1, .ref t2, .ref t3, .ref t4, .ref t5, .ref t6, .ref t7, .ref t8, .ref t9])), (st, .inr (2, [.int 0, .int 1, .long 0, .int 0, .int 0, .ref s5, .ref s6, .ref s7, .ref s8, .ref s9, .ref s10, .ref s11, .ref s12, .ref s13, .ref s14, .ref s15, .ref s16]))]) (wr := [(h0, .inr (4, [.ref t, .ref fi, .ref st, .ref mc]))]) (wc := [(mc, .inr (1, [.ref t, .ref fi, .ref st, .ref kp, .ref m4, .ref m5, .ref m6, .int 0, .int 0, .int 0, .int 0, .int fa])), (t, .inr (3, [.int 0, .ref t1, .ref t2, .ref t3, .ref t4, .ref t5, .ref t6, .ref t7, .ref t8, .ref t9])), (st, .inr (2, [.int 0, .int 0, .long 0, .int 0, .int 0, .ref s5, .ref s6, .ref s7, .ref s8, .ref s9, .ref s10, .ref s11, .ref s12, .ref s13, .ref s14, .ref s15, .ref s16]))]) [1, 2, 3] [0] (va_runV (As := [.int p0, .int p1]) (rest := []) ⟨hx, hb, hml, hown, hts⟩ (c_X1_runFromOutside_0 l D cI cZ cJ cG H.size mc t fi st kp m4 m5 m6 t1 t2 t3 t4 t5 t6 t7 t8 t9 s5 s6 s7 s8 s9 s10 s11 s12 s13 s14 s15 s16 fa p0 p1) (cwV 2 hts (pl_V (pl_m 448 (by decide +kernel)) (pl_m 449 (by decide +kernel)) (pl_m 450 (by decide +kernel)) (pl_m 27 (by decide +kernel)) (pl_m 451 (by decide +kernel))) rfl rfl rfl (by decide +kernel) ⟨(Nat.le_of_ble_eq_true rfl), (Nat.le_of_ble_eq_true rfl)⟩) ⟨pn_M_blind, va_recv hK hPc (ci := 1) (q0 := 0) rfl rfl, (pn_M_at hPc hDc hK)⟩ rfl rfl hl.1 rfl (lv_room (Nat.le_of_ble_eq_true rfl)) dX4_run_11 ⟨(Nat.le_of_ble_eq_true rfl), (Nat.le_of_ble_eq_true rfl)⟩) hS hA hP hD rfl rfl (by decide) (by decide) (fun r_2 u_2 H locs hw hP hD hS => ?_)
    have hP : va_P D vwCl [(h0, .inr (4, [.ref t, .ref fi, .ref st, .ref mc])), (mc, .inr (1, [.ref t, .ref fi, .ref st, .ref kp, .ref m4, .ref m5, .ref m6, .int 0, .int 0, .int 0, .int 0, .int 1])), (t, .inr (3, [.int 0, .ref t1, .ref t2, .ref t3, .ref t4, .ref t5, .ref t6, .ref t7, .ref t8, .ref t9])), (st, .inr (2, [.int 0, .int 1, .long 0, .int 0, .int 0, .ref s5, .ref s6, .ref s7, .ref s8, .ref s9, .ref s10, .ref s11, .ref s12, .ref s13, .ref s14, .ref s15, .ref s16]))] H := hP
    have hD : va_D (A) [(h0, .inr (4, [.ref t, .ref fi, .ref st, .ref mc])), (mc, .inr (1, [.ref t, .ref fi, .ref st, .ref kp, .ref m4, .ref m5, .ref m6, .int 0, .int 0, .int 0, .int 0, .int 1])), (t, .inr (3, [.int 0, .ref t1, .ref t2, .ref t3, .ref t4, .ref t5, .ref t6, .ref t7, .ref t8, .ref t9])), (st, .inr (2, [.int 0, .int 1, .long 0, .int 0, .int 0, .ref s5, .ref s6, .ref s7, .ref s8, .ref s9, .ref s10, .ref s11, .ref s12, .ref s13, .ref s14, .ref s15, .ref s16]))] := hD
    obtain ⟨rfl, hw⟩ := hw
    try simp only [Int32.reduceToInt] at hw
    refine vx_ret ?_
    exact W.iret (v := (-10001)) hx hb hr (fun tz_ ht hW => ⟨⟨(-10001), (), rfl, ⟨rfl, (by first | exact trivial | omega | (simp only [Int32.reduceToInt] at *; omega) | decide)⟩, trivial⟩, hS.F ht⟩) hS.2.2 dX4_run_14
set_option maxHeartbeats 4000000 in
set_option maxRecDepth 100000 in
theorem c_X3_addClass (l : Launch) (D : va_G) (cI cZ cJ cG : ClassId) (sz : Nat) (h0 : Nat) (t1 : Nat) (t2 : Nat) (t3 : Nat) (t4 : Nat) (t5 : Nat) (t6 : Nat) (t7 : Nat) (t8 : Nat) (t9 : Nat) (p0 : Int32) (p1 : Int32) (p2 : Int32) : Met l yX3_addClass (pl_h yX3_addClass cX3_addClass 5 (some .int)) ({ frames := 0, cells := 0, slots := 0, locals := 0 }) (va_Pc [.ref h0, .int p0, .int p1, .int p2] (pn_M D (pn_Y cI cZ cJ cG) [(h0, .inr (3, [.int 0, .ref t1, .ref t2, .ref t3, .ref t4, .ref t5, .ref t6, .ref t7, .ref t8, .ref t9])), (t1, .inl (cZ, 12, .inl (fun _ => 0))), (t2, .inl (cI, 12, .inl (fun _ => 0))), (t3, .inl (cI, 12, .inl (fun _ => 0)))] sz)) (va_Qi (fun (r : Int32) (u : Unit) => (r = 0 ∧ True)) (fun u tz_ => va_P D vwCl [] tz_.heap ∧ va_D (va_A [(h0, .inr (3, [.int 0, .ref t1, .ref t2, .ref t3, .ref t4, .ref t5, .ref t6, .ref t7, .ref t8, .ref t9])), (t1, .inl (cZ, 12, .inl (fun _ => 0))), (t2, .inl (cI, 12, .inl (fun _ => 0))), (t3, .inl (cI, 12, .inl (fun _ => 0)))] sz) []) (va_A [(h0, .inr (3, [.int 0, .ref t1, .ref t2, .ref t3, .ref t4, .ref t5, .ref t6, .ref t7, .ref t8, .ref t9])), (t1, .inl (cZ, 12, .inl (fun _ => 0))), (t2, .inl (cI, 12, .inl (fun _ => 0))), (t3, .inl (cI, 12, .inl (fun _ => 0)))] sz)) 0 0 (va_A [(h0, .inr (3, [.int 0, .ref t1, .ref t2, .ref t3, .ref t4, .ref t5, .ref t6, .ref t7, .ref t8, .ref t9])), (t1, .inl (cZ, 12, .inl (fun _ => 0))), (t2, .inl (cI, 12, .inl (fun _ => 0))), (t3, .inl (cI, 12, .inl (fun _ => 0)))] sz) := by
  refine Met.ofW (cc := cX3_addClass) (maxL := 5) (ret := (some .int)) (by decide) rfl ?_
  intro p e s m args below meth c s₁ B hml hv
  obtain ⟨rfl, hsz, hP, hK, hD0⟩ := hv
  have hx := B.exec
  have hb := B.bytes
  have hr := B.returns
  have hts0 := atoms_spec (ws := pl_h yX3_addClass cX3_addClass 5 (some .int)) B.pre
  have hts := fun (w : Cond) (h : w ∈ pw_all) => hts0 w (List.mem_cons_of_mem _ h)
  have hown : s.vm.findClass RX3 = some m.cls := findClass_of_methodNamed B.named
  have hlocks := B.notSynchronized
  subst hsz
  have hD := hD0.self (sz := s.heap.size)
  generalize hAe : va_A [(h0, .inr (3, [.int 0, .ref t1, .ref t2, .ref t3, .ref t4, .ref t5, .ref t6, .ref t7, .ref t8, .ref t9])), (t1, .inl (cZ, 12, .inl (fun _ => 0))), (t2, .inl (cI, 12, .inl (fun _ => 0))), (t3, .inl (cI, 12, .inl (fun _ => 0)))] s.heap.size = A at hD ⊢
  have hA : ∀ q : Nat, s.heap.size ≤ q → A q := fun q h => by rw [← hAe]; exact Or.inr h
  have hS : va_S A s.heap s.heap [] := va_S.rf
  have hl := lv_entry ([.ref h0, .int p0, .int p1, .int p2]) (n := 5) (Nat.le_of_ble_eq_true rfl)
  rw [lg_entry_eq]
  generalize (lg_sl ([.ref h0, .int p0, .int p1, .int p2]) ++ List.replicate (5 - (lg_sl ([.ref h0, .int p0, .int p1, .int p2])).length) Slot.unset).toArray = ls at hl ⊢
  have hl : lv_has ls 5 [(0, .ref h0), (1, .int p0), (2, .int p1), (3, .int p2)] := hl
  refine lv_aload_n hx hb dX3_addClass_0 rfl (lv_at hl 0 rfl) ?_
  refine va_get (D := D) (ci := 3) (v := .int 0) (C := RX3) (T := TX3) (N := 10) hx hb hts inlX3 hown hK hP 0 rfl rfl 0 (by decide) (hts (.fieldLink RX3 40 "VtableTown$Told" "count" "I") (pl_m 132 (by decide +kernel))) (fun _ h9 => h9) rfl dX3_addClass_1 ?_
  refine lv_istore (lv' := [(4, .int 0), (0, .ref h0), (1, .int p0), (2, .int p1), (3, .int p2)]) hx hb dX3_addClass_4 hl (by decide) rfl (fun ls hl => ?_)
  refine lv_aload_n hx hb dX3_addClass_6 rfl (lv_at hl 1 rfl) ?_
  refine va_get (D := D) (ci := 3) (v := .ref t1) (C := RX3) (T := TX3) (N := 10) hx hb hts inlX3 hown hK hP 0 rfl rfl 1 (by decide) (hts (.fieldLink RX3 9 "VtableTown$Told" "isFace" "[Z") (pl_m 33 (by decide +kernel))) (fun _ h9 => h9) rfl dX3_addClass_7 ?_
  refine lv_iload hx hb dX3_addClass_10 (lv_at hl 0 rfl) ?_
  refine lv_iload_n hx hb dX3_addClass_12 rfl (lv_at hl 2 rfl) ?_
  refine va_zast (n := 12) (f := (fun _ => 0)) hx hb hK hP hD hS 1 1 rfl rfl (vp_in_nI (n := 0) (by decide) (by decide)) dX3_addClass_13 (fun H locs hP hD hS => ?_)
  have hP : va_P D vwCl [(h0, .inr (3, [.int 0, .ref t1, .ref t2, .ref t3, .ref t4, .ref t5, .ref t6, .ref t7, .ref t8, .ref t9])), (t1, .inl (cZ, 12, .inl (upd (fun _ => 0) (Int32.toNatClampNeg 0) (vp_nar .boolean p0)))), (t2, .inl (cI, 12, .inl (fun _ => 0))), (t3, .inl (cI, 12, .inl (fun _ => 0)))] H := hP
  have hD : va_D (A) [(h0, .inr (3, [.int 0, .ref t1, .ref t2, .ref t3, .ref t4, .ref t5, .ref t6, .ref t7, .ref t8, .ref t9])), (t1, .inl (cZ, 12, .inl (upd (fun _ => 0) (Int32.toNatClampNeg 0) (vp_nar .boolean p0)))), (t2, .inl (cI, 12, .inl (fun _ => 0))), (t3, .inl (cI, 12, .inl (fun _ => 0)))] := hD
  refine lv_aload_n hx hb dX3_addClass_14 rfl (lv_at hl 1 rfl) ?_
  refine va_get (D := D) (ci := 3) (v := .ref t2) (C := RX3) (T := TX3) (N := 10) hx hb hts inlX3 hown hK hP 0 rfl rfl 2 (by decide) (hts (.fieldLink RX3 15 "VtableTown$Told" "parents" "[I") (pl_m 35 (by decide +kernel))) (fun _ h9 => h9) rfl dX3_addClass_15 ?_
  refine lv_iload hx hb dX3_addClass_18 (lv_at hl 0 rfl) ?_
  refine lv_iload_n hx hb dX3_addClass_20 rfl (lv_at hl 3 rfl) ?_
  refine va_iast (n := 12) (f := (fun _ => 0)) hx hb hK hP hD hS 2 0 rfl rfl (vp_in_nI (n := 0) (by decide) (by decide)) dX3_addClass_21 (fun H locs hP hD hS => ?_)
  have hP : va_P D vwCl [(h0, .inr (3, [.int 0, .ref t1, .ref t2, .ref t3, .ref t4, .ref t5, .ref t6, .ref t7, .ref t8, .ref t9])), (t1, .inl (cZ, 12, .inl (upd (fun _ => 0) (Int32.toNatClampNeg 0) (vp_nar .boolean p0)))), (t2, .inl (cI, 12, .inl (upd (fun _ => 0) (Int32.toNatClampNeg 0) p1))), (t3, .inl (cI, 12, .inl (fun _ => 0)))] H := hP
  have hD : va_D (A) [(h0, .inr (3, [.int 0, .ref t1, .ref t2, .ref t3, .ref t4, .ref t5, .ref t6, .ref t7, .ref t8, .ref t9])), (t1, .inl (cZ, 12, .inl (upd (fun _ => 0) (Int32.toNatClampNeg 0) (vp_nar .boolean p0)))), (t2, .inl (cI, 12, .inl (upd (fun _ => 0) (Int32.toNatClampNeg 0) p1))), (t3, .inl (cI, 12, .inl (fun _ => 0)))] := hD
  refine lv_aload_n hx hb dX3_addClass_22 rfl (lv_at hl 1 rfl) ?_
  refine va_get (D := D) (ci := 3) (v := .ref t3) (C := RX3) (T := TX3) (N := 10) hx hb hts inlX3 hown hK hP 0 rfl rfl 3 (by decide) (hts (.fieldLink RX3 19 "VtableTown$Told" "interfaces" "[I") (pl_m 36 (by decide +kernel))) (fun _ h9 => h9) rfl dX3_addClass_23 ?_
  refine lv_iload hx hb dX3_addClass_26 (lv_at hl 0 rfl) ?_
  refine lv_iload_n hx hb dX3_addClass_28 rfl (lv_at hl 4 rfl) ?_
  refine va_iast (n := 12) (f := (fun _ => 0)) hx hb hK hP hD hS 3 0 rfl rfl (vp_in_nI (n := 0) (by decide) (by decide)) dX3_addClass_29 (fun H locs hP hD hS => ?_)
  have hP : va_P D vwCl [(h0, .inr (3, [.int 0, .ref t1, .ref t2, .ref t3, .ref t4, .ref t5, .ref t6, .ref t7, .ref t8, .ref t9])), (t1, .inl (cZ, 12, .inl (upd (fun _ => 0) (Int32.toNatClampNeg 0) (vp_nar .boolean p0)))), (t2, .inl (cI, 12, .inl (upd (fun _ => 0) (Int32.toNatClampNeg 0) p1))), (t3, .inl (cI, 12, .inl (upd (fun _ => 0) (Int32.toNatClampNeg 0) p2)))] H := hP
  have hD : va_D (A) [(h0, .inr (3, [.int 0, .ref t1, .ref t2, .ref t3, .ref t4, .ref t5, .ref t6, .ref t7, .ref t8, .ref t9])), (t1, .inl (cZ, 12, .inl (upd (fun _ => 0) (Int32.toNatClampNeg 0) (vp_nar .boolean p0)))), (t2, .inl (cI, 12, .inl (upd (fun _ => 0) (Int32.toNatClampNeg 0) p1))), (t3, .inl (cI, 12, .inl (upd (fun _ => 0) (Int32.toNatClampNeg 0) p2)))] := hD
  refine lv_aload_n hx hb dX3_addClass_30 rfl (lv_at hl 1 rfl) ?_
  refine lv_dup hx hb dX3_addClass_31 rfl ?_
  refine va_get (D := D) (ci := 3) (v := .int 0) (C := RX3) (T := TX3) (N := 10) hx hb hts inlX3 hown hK hP 0 rfl rfl 0 (by decide) (hts (.fieldLink RX3 40 "VtableTown$Told" "count" "I") (pl_m 132 (by decide +kernel))) (fun _ h9 => h9) rfl dX3_addClass_32 ?_
  refine lv_iconst (v := 1) hx hb dX3_addClass_35 (by decide) ?_
  refine lv_iadd hx hb dX3_addClass_36 ?_
  refine lv_topi (fun f_4 ef_4 => ?_)
  have ef_4 : f_4 = 1 := by rw [ef_4]; decide +kernel
  subst ef_4
  refine va_put (D := D) (ci := 3) (v := .int 1) (ty := .int) (C := RX3) (T := TX3) (N := 10) hx hb hts inlX3 tyX3 tyX3_ok nmX3 hown hK hP hD hS 0 rfl rfl 0 (by decide) (hts (.fieldLink RX3 40 "VtableTown$Told" "count" "I") (pl_m 132 (by decide +kernel))) (fun _ h9 => h9) rfl (by decide +kernel) rfl rfl (Nat.le_of_ble_eq_true rfl) dX3_addClass_37 (fun H locs hP hD hS => ?_)
  have hP : va_P D vwCl [(h0, .inr (3, [.int 1, .ref t1, .ref t2, .ref t3, .ref t4, .ref t5, .ref t6, .ref t7, .ref t8, .ref t9])), (t1, .inl (cZ, 12, .inl (upd (fun _ => 0) (Int32.toNatClampNeg 0) (vp_nar .boolean p0)))), (t2, .inl (cI, 12, .inl (upd (fun _ => 0) (Int32.toNatClampNeg 0) p1))), (t3, .inl (cI, 12, .inl (upd (fun _ => 0) (Int32.toNatClampNeg 0) p2)))] H := hP
  have hD : va_D (A) [(h0, .inr (3, [.int 1, .ref t1, .ref t2, .ref t3, .ref t4, .ref t5, .ref t6, .ref t7, .ref t8, .ref t9])), (t1, .inl (cZ, 12, .inl (upd (fun _ => 0) (Int32.toNatClampNeg 0) (vp_nar .boolean p0)))), (t2, .inl (cI, 12, .inl (upd (fun _ => 0) (Int32.toNatClampNeg 0) p1))), (t3, .inl (cI, 12, .inl (upd (fun _ => 0) (Int32.toNatClampNeg 0) p2)))] := hD
  refine lv_iload hx hb dX3_addClass_40 (lv_at hl 0 rfl) ?_
  have hP9 := hP.sub (ws' := []) [] rfl
  have hD9 := hD.sub (ws' := []) [] (by decide) rfl
  exact W.iret (v := 0) hx hb hr (fun tz_ ht hW => ⟨⟨0, (), rfl, ⟨rfl, (by first | exact trivial | omega | (simp only [Int32.reduceToInt] at *; omega) | decide)⟩, (by rw [ht]; exact hP9), hD9⟩, hS.F ht⟩) hS.2.2 dX3_addClass_42
set_option maxHeartbeats 4000000 in
set_option maxRecDepth 100000 in
theorem c_X4_plain (l : Launch) (D : va_G) (cI cZ cJ cG : ClassId) (sz : Nat) (h0 : Nat) (t : Nat) (fi : Nat) (st : Nat) (mc : Nat) (t1 : Nat) (t2 : Nat) (t3 : Nat) (t4 : Nat) (t5 : Nat) (t6 : Nat) (t7 : Nat) (t8 : Nat) (t9 : Nat) (p0 : Int32) (p1 : Int32) (hst : l.stackTraces = false) : vx_Met l yX4_plain (pl_h yX4_plain cX4_plain 3 (some .int)) ({ frames := 7, cells := 1, slots := 6, locals := 102 }) (va_Pc [.ref h0, .int p0, .int p1] (pn_X D (pn_Y cI cZ cJ cG) [(h0, .inr (4, [.ref t, .ref fi, .ref st, .ref mc])), (t, .inr (3, [.int 0, .ref t1, .ref t2, .ref t3, .ref t4, .ref t5, .ref t6, .ref t7, .ref t8, .ref t9])), (t1, .inl (cZ, 12, .inl (fun _ => 0))), (t2, .inl (cI, 12, .inl (fun _ => 0))), (t3, .inl (cI, 12, .inl (fun _ => 0)))] (va_A [(h0, .inr (4, [.ref t, .ref fi, .ref st, .ref mc])), (t, .inr (3, [.int 0, .ref t1, .ref t2, .ref t3, .ref t4, .ref t5, .ref t6, .ref t7, .ref t8, .ref t9])), (t1, .inl (cZ, 12, .inl (fun _ => 0))), (t2, .inl (cI, 12, .inl (fun _ => 0))), (t3, .inl (cI, 12, .inl (fun _ => 0)))] sz) sz)) (va_Qi (fun (r : Int32) (u : Unit) => (r = 0 ∧ ((-1) ≤ p0.toInt ∧ p0.toInt ≤ 11 ∧ p0.toInt ≠ 0 ∧ 0 ≤ p1.toInt ∧ p1.toInt ≤ 4095))) (fun _ _ => True) (va_A [(h0, .inr (4, [.ref t, .ref fi, .ref st, .ref mc])), (t, .inr (3, [.int 0, .ref t1, .ref t2, .ref t3, .ref t4, .ref t5, .ref t6, .ref t7, .ref t8, .ref t9])), (t1, .inl (cZ, 12, .inl (fun _ => 0))), (t2, .inl (cI, 12, .inl (fun _ => 0))), (t3, .inl (cI, 12, .inl (fun _ => 0)))] sz)) (vx_X (fun _ : Unit => True) (fun E _ _ => (E = "java/lang/IllegalArgumentException" ∧ (p0.toInt < (-1) ∨ 11 < p0.toInt ∨ p0.toInt = 0 ∨ p1.toInt < 0 ∨ 4095 < p1.toInt))) (va_A [(h0, .inr (4, [.ref t, .ref fi, .ref st, .ref mc])), (t, .inr (3, [.int 0, .ref t1, .ref t2, .ref t3, .ref t4, .ref t5, .ref t6, .ref t7, .ref t8, .ref t9])), (t1, .inl (cZ, 12, .inl (fun _ => 0))), (t2, .inl (cI, 12, .inl (fun _ => 0))), (t3, .inl (cI, 12, .inl (fun _ => 0)))] sz)) 1 6 (va_A [(h0, .inr (4, [.ref t, .ref fi, .ref st, .ref mc])), (t, .inr (3, [.int 0, .ref t1, .ref t2, .ref t3, .ref t4, .ref t5, .ref t6, .ref t7, .ref t8, .ref t9])), (t1, .inl (cZ, 12, .inl (fun _ => 0))), (t2, .inl (cI, 12, .inl (fun _ => 0))), (t3, .inl (cI, 12, .inl (fun _ => 0)))] sz) := by
  refine vx_ofW (cc := cX4_plain) (maxL := 3) (ret := (some .int)) (by decide) rfl ?_
  intro p e s m args below meth c s₁ B hml hout hv
  obtain ⟨rfl, ⟨hsz, hP, hK, hD0⟩, hZ, hT⟩ := hv
  have hx := B.exec
  have hb := B.bytes
  have hr := B.returns
  have hts0 := atoms_spec (ws := pl_h yX4_plain cX4_plain 3 (some .int)) B.pre
  have hts := fun (w : Cond) (h : w ∈ pw_all) => hts0 w (List.mem_cons_of_mem _ h)
  have hown : s.vm.findClass RX4 = some m.cls := findClass_of_methodNamed B.named
  have hlocks := B.notSynchronized
  subst hsz
  have hD := hD0.self (sz := s.heap.size)
  generalize hAe : va_A [(h0, .inr (4, [.ref t, .ref fi, .ref st, .ref mc])), (t, .inr (3, [.int 0, .ref t1, .ref t2, .ref t3, .ref t4, .ref t5, .ref t6, .ref t7, .ref t8, .ref t9])), (t1, .inl (cZ, 12, .inl (fun _ => 0))), (t2, .inl (cI, 12, .inl (fun _ => 0))), (t3, .inl (cI, 12, .inl (fun _ => 0)))] s.heap.size = A at hZ hD ⊢
  have hA : ∀ q : Nat, s.heap.size ≤ q → A q := fun q h => by rw [← hAe]; exact Or.inr h
  have hS : va_S A s.heap s.heap [] := va_S.rf
  have hl := lv_entry ([.ref h0, .int p0, .int p1]) (n := 3) (Nat.le_of_ble_eq_true rfl)
  rw [lg_entry_eq]
  generalize (lg_sl ([.ref h0, .int p0, .int p1]) ++ List.replicate (3 - (lg_sl ([.ref h0, .int p0, .int p1])).length) Slot.unset).toArray = ls at hl ⊢
  have hl : lv_has ls 3 [(0, .ref h0), (1, .int p0), (2, .int p1)] := hl
  refine lv_iload_n hx hb dX4_plain_0 rfl (lv_at hl 1 rfl) ?_
  refine lv_iconst (v := (-1)) hx hb dX4_plain_1 (by decide) ?_
  refine lv_icmp_lt (tgt := 22) hx hb dX4_plain_2 (by decide) (fun c_1 => ?_) (fun c_1 => ?_)
  · simp only [pn_lt, pn_le, pn_eq, Int32.reduceToInt] at c_1
    obtain ⟨sa_2, hstr_2⟩ := hT.2.1 (47, "no such parent") (by decide +kernel)
    exact vx_throwS (own := RX4) (cls := "java/lang/IllegalArgumentException") (text := "no such parent") (names := ["java/lang/RuntimeException", "java/lang/Exception"]) (ik := 45) (is := 47) (ic := 49) hx hb hst hown pn_fit.1 pn_fit.2.2.2 (hts (.classLink RX4 45 "java/lang/IllegalArgumentException") (pl_m 116 (by decide +kernel))) (hts (.initialized "java/lang/IllegalArgumentException") (pl_m 117 (by decide +kernel))) hstr_2 (pn_hat hts pl_x0 pn_hb1 hT) pn_hg1 hZ.1 hZ.2 hS (hl.1.trans hml.symm) dX4_plain_22 dX4_plain_25 dX4_plain_26 dX4_plain_28 dX4_plain_31 (fun x h9 => (hout x h9).elim) (Nat.le_of_ble_eq_true rfl) (Nat.le_of_ble_eq_true rfl) (Nat.le_of_ble_eq_true rfl) (Nat.le_of_ble_eq_true rfl) hlocks (fun t _ h1 h2 => ⟨(), trivial, ⟨rfl, (by first | exact trivial | omega | (simp only [Int32.reduceToInt] at *; omega) | decide)⟩, pn_xF hS h1 h2⟩) hS.2.2 (Nat.le_of_ble_eq_true rfl) (Nat.le_of_ble_eq_true rfl)
  · simp only [pn_lt, pn_le, pn_eq, Int32.reduceToInt] at c_1
    refine lv_iload_n hx hb dX4_plain_5 rfl (lv_at hl 1 rfl) ?_
    refine lv_bipush (v := 12) hx hb dX4_plain_6 (by decide) ?_
    refine lv_icmp_ge (tgt := 22) hx hb dX4_plain_8 (by decide) (fun c_3 => ?_) (fun c_3 => ?_)
    · simp only [pn_lt, pn_le, pn_eq, Int32.reduceToInt] at c_3
      obtain ⟨sa_4, hstr_4⟩ := hT.2.1 (47, "no such parent") (by decide +kernel)
      exact vx_throwS (own := RX4) (cls := "java/lang/IllegalArgumentException") (text := "no such parent") (names := ["java/lang/RuntimeException", "java/lang/Exception"]) (ik := 45) (is := 47) (ic := 49) hx hb hst hown pn_fit.1 pn_fit.2.2.2 (hts (.classLink RX4 45 "java/lang/IllegalArgumentException") (pl_m 116 (by decide +kernel))) (hts (.initialized "java/lang/IllegalArgumentException") (pl_m 117 (by decide +kernel))) hstr_4 (pn_hat hts pl_x0 pn_hb1 hT) pn_hg1 hZ.1 hZ.2 hS (hl.1.trans hml.symm) dX4_plain_22 dX4_plain_25 dX4_plain_26 dX4_plain_28 dX4_plain_31 (fun x h9 => (hout x h9).elim) (Nat.le_of_ble_eq_true rfl) (Nat.le_of_ble_eq_true rfl) (Nat.le_of_ble_eq_true rfl) (Nat.le_of_ble_eq_true rfl) hlocks (fun t _ h1 h2 => ⟨(), trivial, ⟨rfl, (by first | exact trivial | omega | (simp only [Int32.reduceToInt] at *; omega) | decide)⟩, pn_xF hS h1 h2⟩) hS.2.2 (Nat.le_of_ble_eq_true rfl) (Nat.le_of_ble_eq_true rfl)
    · simp only [pn_lt, pn_le, pn_eq, Int32.reduceToInt] at c_3
      refine lv_iload_n hx hb dX4_plain_11 rfl (lv_at hl 1 rfl) ?_
      refine lv_aload_n hx hb dX4_plain_12 rfl (lv_at hl 0 rfl) ?_
      refine va_get (D := D) (ci := 4) (v := .ref t) (C := RX4) (T := TX4) (N := 4) hx hb hts inlX4 hown hK hP 0 rfl rfl 0 (by decide) (hts (.fieldLink RX4 12 "VtableTown" "told" "LVtableTown$Told;") (pl_m 16 (by decide +kernel))) (fun _ h9 => h9) rfl dX4_plain_13 ?_
      refine va_get (D := D) (ci := 3) (v := .int 0) (C := RX3) (T := TX3) (N := 10) hx hb hts inlX3 hown hK hP 1 rfl rfl 0 (by decide) (hts (.fieldLink RX4 41 "VtableTown$Told" "count" "I") (pl_m 118 (by decide +kernel))) (fun _ h9 => h9) rfl dX4_plain_16 ?_
      refine lv_icmp_ne (tgt := 32) hx hb dX4_plain_19 (by decide) (fun c_5 => ?_) (fun c_5 => ?_)
      · simp only [pn_lt, pn_le, pn_eq, Int32.reduceToInt] at c_5
        refine lv_iload_n hx hb dX4_plain_32 rfl (lv_at hl 2 rfl) ?_
        have hPc := hP.sub (ws' := []) [] rfl
        have hDc := hD.sub (ws' := []) [] (by decide) rfl
        refine pn_xv (vx_runS (As := [.int p1]) (rest := []) ⟨hx, hb, hml, hown, hts⟩ (c_X4_checkInterfaces l D cI cZ cJ cG s.heap.size p1 hst) (va_cwS 1 hts (pl_S (pl_m 119 (by decide +kernel)) (pl_m 120 (by decide +kernel)) (pl_m 2 (by decide +kernel)) (pl_m 121 (by decide +kernel))) rfl rfl rfl (by decide +kernel) ⟨(Nat.le_of_ble_eq_true rfl), (Nat.le_of_ble_eq_true rfl)⟩) ⟨pn_X_blind, (pn_X_at hPc hDc hK hS hZ hT (fun q h => pn_NA hS hA q h))⟩ rfl rfl hl.1 rfl (lv_room (Nat.le_of_ble_eq_true rfl)) dX4_plain_33 ⟨(Nat.le_of_ble_eq_true rfl), (Nat.le_of_ble_eq_true rfl)⟩) hS hA hP (fun E ce q9 H locs hE hP hS h1 h2 h3 => ?_) (fun H locs hw hP hS => ?_)
        · refine pn_out (XE' := fun E => (E = "java/lang/IllegalArgumentException" ∧ (p0.toInt < (-1) ∨ 11 < p0.toInt ∨ p0.toInt = 0 ∨ p1.toInt < 0 ∨ 4095 < p1.toInt))) hout hlocks hS ?_ h1 h2 h3 (Nat.le_of_ble_eq_true rfl) (Nat.le_of_ble_eq_true rfl)
          rcases hE with ⟨rfl, hE⟩
          · exact ⟨rfl, (by first | exact trivial | omega | (simp only [Int32.reduceToInt] at *; omega) | decide)⟩
        · have hP : va_P D vwCl [(h0, .inr (4, [.ref t, .ref fi, .ref st, .ref mc])), (t, .inr (3, [.int 0, .ref t1, .ref t2, .ref t3, .ref t4, .ref t5, .ref t6, .ref t7, .ref t8, .ref t9])), (t1, .inl (cZ, 12, .inl (fun _ => 0))), (t2, .inl (cI, 12, .inl (fun _ => 0))), (t3, .inl (cI, 12, .inl (fun _ => 0)))] H := hP
          refine W.widen (k := 1) (n := 6) (Nat.le_of_ble_eq_true rfl) (Nat.le_of_ble_eq_true rfl) ?_
          refine lv_aload_n hx hb dX4_plain_36 rfl (lv_at hl 0 rfl) ?_
          have hPc := hP.sub (ws' := [(h0, .inr (4, [.ref t, .ref fi, .ref st, .ref mc])), (t, .inr (3, [.int 0, .ref t1, .ref t2, .ref t3, .ref t4, .ref t5, .ref t6, .ref t7, .ref t8, .ref t9]))]) [0, 1] rfl
          refine pn_cv (va_runV (As := []) (rest := []) ⟨hx, hb, hml, hown, hts⟩ (c_X4_checkThereIsRoom l D cI cZ cJ cG H.size h0 t fi st mc t1 t2 t3 t4 t5 t6 t7 t8 t9) (cwV 0 hts (pl_V (pl_m 122 (by decide +kernel)) (pl_m 123 (by decide +kernel)) (pl_m 124 (by decide +kernel)) (pl_m 2 (by decide +kernel)) (pl_m 125 (by decide +kernel))) rfl rfl rfl (by decide +kernel) ⟨(Nat.le_of_ble_eq_true rfl), (Nat.le_of_ble_eq_true rfl)⟩) ⟨pn_B_blind, va_recv hK hPc (ci := 4) (q0 := 0) rfl rfl, (pn_B_at hPc hK)⟩ rfl rfl hl.1 rfl (lv_room (Nat.le_of_ble_eq_true rfl)) dX4_plain_37 ⟨(Nat.le_of_ble_eq_true rfl), (Nat.le_of_ble_eq_true rfl)⟩) hS hA hP (fun H locs hw hP hS => ?_)
          have hP : va_P D vwCl [(h0, .inr (4, [.ref t, .ref fi, .ref st, .ref mc])), (t, .inr (3, [.int 0, .ref t1, .ref t2, .ref t3, .ref t4, .ref t5, .ref t6, .ref t7, .ref t8, .ref t9])), (t1, .inl (cZ, 12, .inl (fun _ => 0))), (t2, .inl (cI, 12, .inl (fun _ => 0))), (t3, .inl (cI, 12, .inl (fun _ => 0)))] H := hP
          refine lv_aload_n hx hb dX4_plain_40 rfl (lv_at hl 0 rfl) ?_
          refine va_get (D := D) (ci := 4) (v := .ref t) (C := RX4) (T := TX4) (N := 4) hx hb hts inlX4 hown hK hP 0 rfl rfl 0 (by decide) (hts (.fieldLink RX4 12 "VtableTown" "told" "LVtableTown$Told;") (pl_m 16 (by decide +kernel))) (fun _ h9 => h9) rfl dX4_plain_41 ?_
          refine lv_iconst (v := 0) hx hb dX4_plain_44 (by decide) ?_
          refine lv_iload_n hx hb dX4_plain_45 rfl (lv_at hl 1 rfl) ?_
          refine lv_iload_n hx hb dX4_plain_46 rfl (lv_at hl 2 rfl) ?_
          have hPc := hP.sub (ws' := [(t, .inr (3, [.int 0, .ref t1, .ref t2, .ref t3, .ref t4, .ref t5, .ref t6, .ref t7, .ref t8, .ref t9])), (t1, .inl (cZ, 12, .inl (fun _ => 0))), (t2, .inl (cI, 12, .inl (fun _ => 0))), (t3, .inl (cI, 12, .inl (fun _ => 0)))]) [1, 2, 3, 4] rfl
          have hDc := hD.sub (ws' := [(t, .inr (3, [.int 0, .ref t1, .ref t2, .ref t3, .ref t4, .ref t5, .ref t6, .ref t7, .ref t8, .ref t9])), (t1, .inl (cZ, 12, .inl (fun _ => 0))), (t2, .inl (cI, 12, .inl (fun _ => 0))), (t3, .inl (cI, 12, .inl (fun _ => 0)))]) [1, 2, 3, 4] (by decide) rfl
          refine pn_mi (w1 := fun (u : Unit) => []) (wr := [(h0, .inr (4, [.ref t, .ref fi, .ref st, .ref mc]))]) (wc := [(t, .inr (3, [.int 0, .ref t1, .ref t2, .ref t3, .ref t4, .ref t5, .ref t6, .ref t7, .ref t8, .ref t9])), (t1, .inl (cZ, 12, .inl (fun _ => 0))), (t2, .inl (cI, 12, .inl (fun _ => 0))), (t3, .inl (cI, 12, .inl (fun _ => 0)))]) [1, 2, 3, 4] [0] (va_runV (As := [.int 0, .int p0, .int p1]) (rest := []) ⟨hx, hb, hml, hown, hts⟩ (c_X3_addClass l D cI cZ cJ cG H.size t t1 t2 t3 t4 t5 t6 t7 t8 t9 0 p0 p1) (cwV 3 hts (pl_V (pl_m 128 (by decide +kernel)) (pl_m 129 (by decide +kernel)) (pl_m 130 (by decide +kernel)) (pl_m 15 (by decide +kernel)) (pl_m 131 (by decide +kernel))) rfl rfl rfl (by decide +kernel) ⟨(Nat.le_of_ble_eq_true rfl), (Nat.le_of_ble_eq_true rfl)⟩) ⟨pn_M_blind, va_recv hK hPc (ci := 3) (q0 := 0) rfl rfl, (pn_M_at hPc hDc hK)⟩ rfl rfl hl.1 rfl (lv_room (Nat.le_of_ble_eq_true rfl)) dX4_plain_47 ⟨(Nat.le_of_ble_eq_true rfl), (Nat.le_of_ble_eq_true rfl)⟩) hS hA hP hD rfl rfl (by decide) (by decide) (fun r_8 u_8 H locs hw hP hD hS => ?_)
          have hP : va_P D vwCl [(h0, .inr (4, [.ref t, .ref fi, .ref st, .ref mc]))] H := hP
          have hD : va_D (A) [(h0, .inr (4, [.ref t, .ref fi, .ref st, .ref mc]))] := hD
          obtain ⟨rfl, hw⟩ := hw
          try simp only [Int32.reduceToInt] at hw
          refine vx_ret ?_
          exact W.iret (v := 0) hx hb hr (fun tz_ ht hW => ⟨⟨0, (), rfl, ⟨rfl, (by first | exact trivial | omega | (simp only [Int32.reduceToInt] at *; omega) | decide)⟩, trivial⟩, hS.F ht⟩) hS.2.2 dX4_plain_50
      · simp only [pn_lt, pn_le, pn_eq, Int32.reduceToInt] at c_5
        obtain ⟨sa_9, hstr_9⟩ := hT.2.1 (47, "no such parent") (by decide +kernel)
        exact vx_throwS (own := RX4) (cls := "java/lang/IllegalArgumentException") (text := "no such parent") (names := ["java/lang/RuntimeException", "java/lang/Exception"]) (ik := 45) (is := 47) (ic := 49) hx hb hst hown pn_fit.1 pn_fit.2.2.2 (hts (.classLink RX4 45 "java/lang/IllegalArgumentException") (pl_m 116 (by decide +kernel))) (hts (.initialized "java/lang/IllegalArgumentException") (pl_m 117 (by decide +kernel))) hstr_9 (pn_hat hts pl_x0 pn_hb1 hT) pn_hg1 hZ.1 hZ.2 hS (hl.1.trans hml.symm) dX4_plain_22 dX4_plain_25 dX4_plain_26 dX4_plain_28 dX4_plain_31 (fun x h9 => (hout x h9).elim) (Nat.le_of_ble_eq_true rfl) (Nat.le_of_ble_eq_true rfl) (Nat.le_of_ble_eq_true rfl) (Nat.le_of_ble_eq_true rfl) hlocks (fun t _ h1 h2 => ⟨(), trivial, ⟨rfl, (by first | exact trivial | omega | (simp only [Int32.reduceToInt] at *; omega) | decide)⟩, pn_xF hS h1 h2⟩) hS.2.2 (Nat.le_of_ble_eq_true rfl) (Nat.le_of_ble_eq_true rfl)
set_option maxHeartbeats 4000000 in
set_option maxRecDepth 100000 in
theorem c_X4_face (l : Launch) (D : va_G) (cI cZ cJ cG : ClassId) (sz : Nat) (h0 : Nat) (t : Nat) (fi : Nat) (st : Nat) (mc : Nat) (t1 : Nat) (t2 : Nat) (t3 : Nat) (t4 : Nat) (t5 : Nat) (t6 : Nat) (t7 : Nat) (t8 : Nat) (t9 : Nat) (p0 : Int32) (hst : l.stackTraces = false) : vx_Met l yX4_face (pl_h yX4_face cX4_face 2 (some .int)) ({ frames := 7, cells := 1, slots := 6, locals := 102 }) (va_Pc [.ref h0, .int p0] (pn_X D (pn_Y cI cZ cJ cG) [(h0, .inr (4, [.ref t, .ref fi, .ref st, .ref mc])), (t, .inr (3, [.int 0, .ref t1, .ref t2, .ref t3, .ref t4, .ref t5, .ref t6, .ref t7, .ref t8, .ref t9])), (t1, .inl (cZ, 12, .inl (fun _ => 0))), (t2, .inl (cI, 12, .inl (fun _ => 0))), (t3, .inl (cI, 12, .inl (fun _ => 0)))] (va_A [(h0, .inr (4, [.ref t, .ref fi, .ref st, .ref mc])), (t, .inr (3, [.int 0, .ref t1, .ref t2, .ref t3, .ref t4, .ref t5, .ref t6, .ref t7, .ref t8, .ref t9])), (t1, .inl (cZ, 12, .inl (fun _ => 0))), (t2, .inl (cI, 12, .inl (fun _ => 0))), (t3, .inl (cI, 12, .inl (fun _ => 0)))] sz) sz)) (va_Qi (fun (r : Int32) (u : Unit) => (r = 0 ∧ (0 ≤ p0.toInt ∧ p0.toInt ≤ 4095))) (fun _ _ => True) (va_A [(h0, .inr (4, [.ref t, .ref fi, .ref st, .ref mc])), (t, .inr (3, [.int 0, .ref t1, .ref t2, .ref t3, .ref t4, .ref t5, .ref t6, .ref t7, .ref t8, .ref t9])), (t1, .inl (cZ, 12, .inl (fun _ => 0))), (t2, .inl (cI, 12, .inl (fun _ => 0))), (t3, .inl (cI, 12, .inl (fun _ => 0)))] sz)) (vx_X (fun _ : Unit => True) (fun E _ _ => (E = "java/lang/IllegalArgumentException" ∧ (p0.toInt < 0 ∨ 4095 < p0.toInt))) (va_A [(h0, .inr (4, [.ref t, .ref fi, .ref st, .ref mc])), (t, .inr (3, [.int 0, .ref t1, .ref t2, .ref t3, .ref t4, .ref t5, .ref t6, .ref t7, .ref t8, .ref t9])), (t1, .inl (cZ, 12, .inl (fun _ => 0))), (t2, .inl (cI, 12, .inl (fun _ => 0))), (t3, .inl (cI, 12, .inl (fun _ => 0)))] sz)) 1 6 (va_A [(h0, .inr (4, [.ref t, .ref fi, .ref st, .ref mc])), (t, .inr (3, [.int 0, .ref t1, .ref t2, .ref t3, .ref t4, .ref t5, .ref t6, .ref t7, .ref t8, .ref t9])), (t1, .inl (cZ, 12, .inl (fun _ => 0))), (t2, .inl (cI, 12, .inl (fun _ => 0))), (t3, .inl (cI, 12, .inl (fun _ => 0)))] sz) := by
  refine vx_ofW (cc := cX4_face) (maxL := 2) (ret := (some .int)) (by decide) rfl ?_
  intro p e s m args below meth c s₁ B hml hout hv
  obtain ⟨rfl, ⟨hsz, hP, hK, hD0⟩, hZ, hT⟩ := hv
  have hx := B.exec
  have hb := B.bytes
  have hr := B.returns
  have hts0 := atoms_spec (ws := pl_h yX4_face cX4_face 2 (some .int)) B.pre
  have hts := fun (w : Cond) (h : w ∈ pw_all) => hts0 w (List.mem_cons_of_mem _ h)
  have hown : s.vm.findClass RX4 = some m.cls := findClass_of_methodNamed B.named
  have hlocks := B.notSynchronized
  subst hsz
  have hD := hD0.self (sz := s.heap.size)
  generalize hAe : va_A [(h0, .inr (4, [.ref t, .ref fi, .ref st, .ref mc])), (t, .inr (3, [.int 0, .ref t1, .ref t2, .ref t3, .ref t4, .ref t5, .ref t6, .ref t7, .ref t8, .ref t9])), (t1, .inl (cZ, 12, .inl (fun _ => 0))), (t2, .inl (cI, 12, .inl (fun _ => 0))), (t3, .inl (cI, 12, .inl (fun _ => 0)))] s.heap.size = A at hZ hD ⊢
  have hA : ∀ q : Nat, s.heap.size ≤ q → A q := fun q h => by rw [← hAe]; exact Or.inr h
  have hS : va_S A s.heap s.heap [] := va_S.rf
  have hl := lv_entry ([.ref h0, .int p0]) (n := 2) (Nat.le_of_ble_eq_true rfl)
  rw [lg_entry_eq]
  generalize (lg_sl ([.ref h0, .int p0]) ++ List.replicate (2 - (lg_sl ([.ref h0, .int p0])).length) Slot.unset).toArray = ls at hl ⊢
  have hl : lv_has ls 2 [(0, .ref h0), (1, .int p0)] := hl
  refine lv_iload_n hx hb dX4_face_0 rfl (lv_at hl 1 rfl) ?_
  have hPc := hP.sub (ws' := []) [] rfl
  have hDc := hD.sub (ws' := []) [] (by decide) rfl
  refine pn_xv (vx_runS (As := [.int p0]) (rest := []) ⟨hx, hb, hml, hown, hts⟩ (c_X4_checkInterfaces l D cI cZ cJ cG s.heap.size p0 hst) (va_cwS 1 hts (pl_S (pl_m 119 (by decide +kernel)) (pl_m 120 (by decide +kernel)) (pl_m 2 (by decide +kernel)) (pl_m 121 (by decide +kernel))) rfl rfl rfl (by decide +kernel) ⟨(Nat.le_of_ble_eq_true rfl), (Nat.le_of_ble_eq_true rfl)⟩) ⟨pn_X_blind, (pn_X_at hPc hDc hK hS hZ hT (fun q h => pn_NA hS hA q h))⟩ rfl rfl hl.1 rfl (lv_room (Nat.le_of_ble_eq_true rfl)) dX4_face_1 ⟨(Nat.le_of_ble_eq_true rfl), (Nat.le_of_ble_eq_true rfl)⟩) hS hA hP (fun E ce q9 H locs hE hP hS h1 h2 h3 => ?_) (fun H locs hw hP hS => ?_)
  · refine pn_out (XE' := fun E => (E = "java/lang/IllegalArgumentException" ∧ (p0.toInt < 0 ∨ 4095 < p0.toInt))) hout hlocks hS ?_ h1 h2 h3 (Nat.le_of_ble_eq_true rfl) (Nat.le_of_ble_eq_true rfl)
    rcases hE with ⟨rfl, hE⟩
    · exact ⟨rfl, (by first | exact trivial | omega | (simp only [Int32.reduceToInt] at *; omega) | decide)⟩
  · have hP : va_P D vwCl [(h0, .inr (4, [.ref t, .ref fi, .ref st, .ref mc])), (t, .inr (3, [.int 0, .ref t1, .ref t2, .ref t3, .ref t4, .ref t5, .ref t6, .ref t7, .ref t8, .ref t9])), (t1, .inl (cZ, 12, .inl (fun _ => 0))), (t2, .inl (cI, 12, .inl (fun _ => 0))), (t3, .inl (cI, 12, .inl (fun _ => 0)))] H := hP
    refine W.widen (k := 1) (n := 6) (Nat.le_of_ble_eq_true rfl) (Nat.le_of_ble_eq_true rfl) ?_
    refine lv_aload_n hx hb dX4_face_4 rfl (lv_at hl 0 rfl) ?_
    have hPc := hP.sub (ws' := [(h0, .inr (4, [.ref t, .ref fi, .ref st, .ref mc])), (t, .inr (3, [.int 0, .ref t1, .ref t2, .ref t3, .ref t4, .ref t5, .ref t6, .ref t7, .ref t8, .ref t9]))]) [0, 1] rfl
    refine pn_cv (va_runV (As := []) (rest := []) ⟨hx, hb, hml, hown, hts⟩ (c_X4_checkThereIsRoom l D cI cZ cJ cG H.size h0 t fi st mc t1 t2 t3 t4 t5 t6 t7 t8 t9) (cwV 0 hts (pl_V (pl_m 122 (by decide +kernel)) (pl_m 123 (by decide +kernel)) (pl_m 124 (by decide +kernel)) (pl_m 2 (by decide +kernel)) (pl_m 125 (by decide +kernel))) rfl rfl rfl (by decide +kernel) ⟨(Nat.le_of_ble_eq_true rfl), (Nat.le_of_ble_eq_true rfl)⟩) ⟨pn_B_blind, va_recv hK hPc (ci := 4) (q0 := 0) rfl rfl, (pn_B_at hPc hK)⟩ rfl rfl hl.1 rfl (lv_room (Nat.le_of_ble_eq_true rfl)) dX4_face_5 ⟨(Nat.le_of_ble_eq_true rfl), (Nat.le_of_ble_eq_true rfl)⟩) hS hA hP (fun H locs hw hP hS => ?_)
    have hP : va_P D vwCl [(h0, .inr (4, [.ref t, .ref fi, .ref st, .ref mc])), (t, .inr (3, [.int 0, .ref t1, .ref t2, .ref t3, .ref t4, .ref t5, .ref t6, .ref t7, .ref t8, .ref t9])), (t1, .inl (cZ, 12, .inl (fun _ => 0))), (t2, .inl (cI, 12, .inl (fun _ => 0))), (t3, .inl (cI, 12, .inl (fun _ => 0)))] H := hP
    refine lv_aload_n hx hb dX4_face_8 rfl (lv_at hl 0 rfl) ?_
    refine va_get (D := D) (ci := 4) (v := .ref t) (C := RX4) (T := TX4) (N := 4) hx hb hts inlX4 hown hK hP 0 rfl rfl 0 (by decide) (hts (.fieldLink RX4 12 "VtableTown" "told" "LVtableTown$Told;") (pl_m 16 (by decide +kernel))) (fun _ h9 => h9) rfl dX4_face_9 ?_
    refine lv_iconst (v := 1) hx hb dX4_face_12 (by decide) ?_
    refine lv_iconst (v := (-1)) hx hb dX4_face_13 (by decide) ?_
    refine lv_iload_n hx hb dX4_face_14 rfl (lv_at hl 1 rfl) ?_
    have hPc := hP.sub (ws' := [(t, .inr (3, [.int 0, .ref t1, .ref t2, .ref t3, .ref t4, .ref t5, .ref t6, .ref t7, .ref t8, .ref t9])), (t1, .inl (cZ, 12, .inl (fun _ => 0))), (t2, .inl (cI, 12, .inl (fun _ => 0))), (t3, .inl (cI, 12, .inl (fun _ => 0)))]) [1, 2, 3, 4] rfl
    have hDc := hD.sub (ws' := [(t, .inr (3, [.int 0, .ref t1, .ref t2, .ref t3, .ref t4, .ref t5, .ref t6, .ref t7, .ref t8, .ref t9])), (t1, .inl (cZ, 12, .inl (fun _ => 0))), (t2, .inl (cI, 12, .inl (fun _ => 0))), (t3, .inl (cI, 12, .inl (fun _ => 0)))]) [1, 2, 3, 4] (by decide) rfl
    refine pn_mi (w1 := fun (u : Unit) => []) (wr := [(h0, .inr (4, [.ref t, .ref fi, .ref st, .ref mc]))]) (wc := [(t, .inr (3, [.int 0, .ref t1, .ref t2, .ref t3, .ref t4, .ref t5, .ref t6, .ref t7, .ref t8, .ref t9])), (t1, .inl (cZ, 12, .inl (fun _ => 0))), (t2, .inl (cI, 12, .inl (fun _ => 0))), (t3, .inl (cI, 12, .inl (fun _ => 0)))]) [1, 2, 3, 4] [0] (va_runV (As := [.int 1, .int (-1), .int p0]) (rest := []) ⟨hx, hb, hml, hown, hts⟩ (c_X3_addClass l D cI cZ cJ cG H.size t t1 t2 t3 t4 t5 t6 t7 t8 t9 1 (-1) p0) (cwV 3 hts (pl_V (pl_m 128 (by decide +kernel)) (pl_m 129 (by decide +kernel)) (pl_m 130 (by decide +kernel)) (pl_m 15 (by decide +kernel)) (pl_m 131 (by decide +kernel))) rfl rfl rfl (by decide +kernel) ⟨(Nat.le_of_ble_eq_true rfl), (Nat.le_of_ble_eq_true rfl)⟩) ⟨pn_M_blind, va_recv hK hPc (ci := 3) (q0 := 0) rfl rfl, (pn_M_at hPc hDc hK)⟩ rfl rfl hl.1 rfl (lv_room (Nat.le_of_ble_eq_true rfl)) dX4_face_15 ⟨(Nat.le_of_ble_eq_true rfl), (Nat.le_of_ble_eq_true rfl)⟩) hS hA hP hD rfl rfl (by decide) (by decide) (fun r_3 u_3 H locs hw hP hD hS => ?_)
    have hP : va_P D vwCl [(h0, .inr (4, [.ref t, .ref fi, .ref st, .ref mc]))] H := hP
    have hD : va_D (A) [(h0, .inr (4, [.ref t, .ref fi, .ref st, .ref mc]))] := hD
    obtain ⟨rfl, hw⟩ := hw
    try simp only [Int32.reduceToInt] at hw
    refine vx_ret ?_
    exact W.iret (v := 0) hx hb hr (fun tz_ ht hW => ⟨⟨0, (), rfl, ⟨rfl, (by first | exact trivial | omega | (simp only [Int32.reduceToInt] at *; omega) | decide)⟩, trivial⟩, hS.F ht⟩) hS.2.2 dX4_face_18
