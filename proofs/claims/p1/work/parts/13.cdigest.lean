theorem dX4_digest_0 : decode cX4_digest 0 = .ok (.ldc2_w 243, 3) := by decide +kernel
theorem dX4_digest_3 : decode cX4_digest 3 = .ok (.lstore_n 1, 1) := by decide +kernel
theorem dX4_digest_4 : decode cX4_digest 4 = .ok (.iconst 0, 1) := by decide +kernel
theorem dX4_digest_5 : decode cX4_digest 5 = .ok (.istore_n 3, 1) := by decide +kernel
theorem dX4_digest_6 : decode cX4_digest 6 = .ok (.iload_n 3, 1) := by decide +kernel
theorem dX4_digest_7 : decode cX4_digest 7 = .ok (.bipush 13, 2) := by decide +kernel
theorem dX4_digest_9 : decode cX4_digest 9 = .ok (.if_icmp .gt 22, 3) := by decide +kernel
theorem dX4_digest_12 : decode cX4_digest 12 = .ok (.lload_n 1, 1) := by decide +kernel
theorem dX4_digest_13 : decode cX4_digest 13 = .ok (.ldc2_w 245, 3) := by decide +kernel
theorem dX4_digest_16 : decode cX4_digest 16 = .ok (.lmul, 1) := by decide +kernel
theorem dX4_digest_17 : decode cX4_digest 17 = .ok (.aload_n 0, 1) := by decide +kernel
theorem dX4_digest_18 : decode cX4_digest 18 = .ok (.iload_n 3, 1) := by decide +kernel
theorem dX4_digest_19 : decode cX4_digest 19 = .ok (.invokevirtual 247, 3) := by decide +kernel
theorem dX4_digest_22 : decode cX4_digest 22 = .ok (.i2l, 1) := by decide +kernel
theorem dX4_digest_23 : decode cX4_digest 23 = .ok (.ladd, 1) := by decide +kernel
theorem dX4_digest_24 : decode cX4_digest 24 = .ok (.lstore_n 1, 1) := by decide +kernel
theorem dX4_digest_25 : decode cX4_digest 25 = .ok (.iinc 3 1, 3) := by decide +kernel
theorem dX4_digest_28 : decode cX4_digest 28 = .ok (.goto (-22), 3) := by decide +kernel
theorem dX4_digest_31 : decode cX4_digest 31 = .ok (.iconst 0, 1) := by decide +kernel
theorem dX4_digest_32 : decode cX4_digest 32 = .ok (.istore_n 3, 1) := by decide +kernel
theorem dX4_digest_33 : decode cX4_digest 33 = .ok (.iload_n 3, 1) := by decide +kernel
theorem dX4_digest_34 : decode cX4_digest 34 = .ok (.aload_n 0, 1) := by decide +kernel
theorem dX4_digest_35 : decode cX4_digest 35 = .ok (.getfield 12, 3) := by decide +kernel
theorem dX4_digest_38 : decode cX4_digest 38 = .ok (.getfield 41, 3) := by decide +kernel
theorem dX4_digest_41 : decode cX4_digest 41 = .ok (.if_icmp .ge 16, 3) := by decide +kernel
theorem dX4_digest_57 : decode cX4_digest 57 = .ok (.iconst 0, 1) := by decide +kernel
theorem dX4_digest_58 : decode cX4_digest 58 = .ok (.istore_n 3, 1) := by decide +kernel
theorem dX4_digest_59 : decode cX4_digest 59 = .ok (.iload_n 3, 1) := by decide +kernel
theorem dX4_digest_60 : decode cX4_digest 60 = .ok (.aload_n 0, 1) := by decide +kernel
theorem dX4_digest_61 : decode cX4_digest 61 = .ok (.getfield 12, 3) := by decide +kernel
theorem dX4_digest_64 : decode cX4_digest 64 = .ok (.getfield 41, 3) := by decide +kernel
theorem dX4_digest_67 : decode cX4_digest 67 = .ok (.if_icmp .ge 16, 3) := by decide +kernel
theorem dX4_digest_83 : decode cX4_digest 83 = .ok (.iconst 0, 1) := by decide +kernel
theorem dX4_digest_84 : decode cX4_digest 84 = .ok (.istore_n 3, 1) := by decide +kernel
theorem dX4_digest_85 : decode cX4_digest 85 = .ok (.iload_n 3, 1) := by decide +kernel
theorem dX4_digest_86 : decode cX4_digest 86 = .ok (.aload_n 0, 1) := by decide +kernel
theorem dX4_digest_87 : decode cX4_digest 87 = .ok (.getfield 12, 3) := by decide +kernel
theorem dX4_digest_90 : decode cX4_digest 90 = .ok (.getfield 41, 3) := by decide +kernel
theorem dX4_digest_93 : decode cX4_digest 93 = .ok (.if_icmp .ge 55, 3) := by decide +kernel
theorem dX4_digest_148 : decode cX4_digest 148 = .ok (.lload_n 1, 1) := by decide +kernel
theorem dX4_digest_149 : decode cX4_digest 149 = .ok (.lreturn, 1) := by decide +kernel
set_option maxHeartbeats 4000000 in
set_option maxRecDepth 100000 in
theorem c_X4_many_ok (l : Launch) (D : va_G) (cI cZ cJ cG : ClassId) (sz : Nat) (h0 : Nat) (t : Nat) (fi : Nat) (st : Nat) (mc : Nat) (t1 : Nat) (t2 : Nat) (t3 : Nat) (t4 : Nat) (t5 : Nat) (t6 : Nat) (t7 : Nat) (t8 : Nat) (t9 : Nat) (s5 : Nat) (s6 : Nat) (s7 : Nat) (s8 : Nat) (s9 : Nat) (s10 : Nat) (s11 : Nat) (s12 : Nat) (s13 : Nat) (s14 : Nat) (s15 : Nat) (s16 : Nat) (p0 : Int32) (hm : 0 ≤ p0.toInt ∧ p0.toInt ≤ 13) : Met l yX4_many (pl_h yX4_many cX4_many 2 (some .int)) ({ frames := 1, cells := 0, slots := 0, locals := 24 }) (va_Pc [.ref h0, .int p0] (pn_B D (pn_Y cI cZ cJ cG) [(h0, .inr (4, [.ref t, .ref fi, .ref st, .ref mc])), (t, .inr (3, [.int 0, .ref t1, .ref t2, .ref t3, .ref t4, .ref t5, .ref t6, .ref t7, .ref t8, .ref t9])), (st, .inr (2, [.int 0, .int 0, .long 0, .int 0, .int 0, .ref s5, .ref s6, .ref s7, .ref s8, .ref s9, .ref s10, .ref s11, .ref s12, .ref s13, .ref s14, .ref s15, .ref s16]))] sz)) (va_Qi (fun (r : Int32) (u : Unit) => (r = 0 ∧ True)) (fun _ _ => True) (pn_N sz)) 0 0 (pn_N sz) := by
  refine Met.ofW (cc := cX4_many) (maxL := 2) (ret := (some .int)) (by decide) rfl ?_
  intro p e s m args below meth c s₁ B hml hv
  obtain ⟨rfl, hsz, hP, hK⟩ := hv
  have hx := B.exec
  have hb := B.bytes
  have hr := B.returns
  have hts0 := atoms_spec (ws := pl_h yX4_many cX4_many 2 (some .int)) B.pre
  have hts := fun (w : Cond) (h : w ∈ pw_all) => hts0 w (List.mem_cons_of_mem _ h)
  have hown : s.vm.findClass RX4 = some m.cls := findClass_of_methodNamed B.named
  have hlocks := B.notSynchronized
  subst hsz
  have hA : ∀ q : Nat, s.heap.size ≤ q → pn_N s.heap.size q := fun q h => h
  have hS : va_S (pn_N s.heap.size) s.heap s.heap [] := va_S.rf
  have hl := lv_entry ([.ref h0, .int p0]) (n := 2) (Nat.le_of_ble_eq_true rfl)
  rw [lg_entry_eq]
  generalize (lg_sl ([.ref h0, .int p0]) ++ List.replicate (2 - (lg_sl ([.ref h0, .int p0])).length) Slot.unset).toArray = ls at hl ⊢
  have hl : lv_has ls 2 [(0, .ref h0), (1, .int p0)] := hl
  refine lv_iload_n hx hb dX4_many_0 rfl (lv_at hl 1 rfl) ?_
  rcases (show (p0.toInt < 0 ∨ 13 < p0.toInt) ∨ p0 = 0 ∨ p0 = 1 ∨ p0 = 2 ∨ p0 = 3 ∨ p0 = 4 ∨ p0 = 5 ∨ p0 = 6 ∨ p0 = 7 ∨ p0 = 8 ∨ p0 = 9 ∨ p0 = 10 ∨ p0 = 11 ∨ p0 = 12 ∨ p0 = 13 from by simp only [pn_eq, Int32.reduceToInt]; omega) with hsw | rfl | rfl | rfl | rfl | rfl | rfl | rfl | rfl | rfl | rfl | rfl | rfl | rfl | rfl
  · exact absurd hsw (by omega)
  · refine lv_tableIn (off := 71) (tgt := 72) hx hb dX4_many_1 (by decide) (by decide) (by decide +kernel) (by decide) ?_
    refine lv_aload_n hx hb dX4_many_72 rfl (lv_at hl 0 rfl) ?_
    refine va_get (D := D) (ci := 4) (v := .ref t) (C := RX4) (T := TX4) (N := 4) hx hb hts inlX4 hown hK hP 0 rfl rfl 0 (by decide) (hts (.fieldLink RX4 12 "VtableTown" "told" "LVtableTown$Told;") (pl_m 16 (by decide +kernel))) (fun _ h9 => h9) rfl dX4_many_73 ?_
    refine va_get (D := D) (ci := 3) (v := .int 0) (C := RX3) (T := TX3) (N := 10) hx hb hts inlX3 hown hK hP 1 rfl rfl 0 (by decide) (hts (.fieldLink RX4 41 "VtableTown$Told" "count" "I") (pl_m 118 (by decide +kernel))) (fun _ h9 => h9) rfl dX4_many_76 ?_
    exact W.iret (v := 0) hx hb hr (fun tz_ ht hW => ⟨⟨0, (), rfl, ⟨rfl, (by first | exact trivial | omega | (simp only [Int32.reduceToInt] at *; omega) | decide)⟩, trivial⟩, hS.F ht⟩) hS.2.2 dX4_many_79
  · refine lv_tableIn (off := 79) (tgt := 80) hx hb dX4_many_1 (by decide) (by decide) (by decide +kernel) (by decide) ?_
    refine lv_aload_n hx hb dX4_many_80 rfl (lv_at hl 0 rfl) ?_
    refine lv_aload_n hx hb dX4_many_81 rfl (lv_at hl 0 rfl) ?_
    refine va_get (D := D) (ci := 4) (v := .ref st) (C := RX4) (T := TX4) (N := 4) hx hb hts inlX4 hown hK hP 0 rfl rfl 2 (by decide) (hts (.fieldLink RX4 28 "VtableTown" "state" "LVtableTown$State;") (pl_m 24 (by decide +kernel))) (fun _ h9 => h9) rfl dX4_many_82 ?_
    refine va_get (D := D) (ci := 2) (v := .ref s5) (C := RX2) (T := TX2) (N := 17) hx hb hts inlX2 hown hK hP 2 rfl rfl 5 (by decide) (hts (.fieldLink RX4 144 "VtableTown$State" "status" "[I") (pl_m 192 (by decide +kernel))) (fun _ h9 => h9) rfl dX4_many_85 ?_
    refine lv_iconst (v := 0) hx hb dX4_many_88 (by decide) ?_
    have hPc := hP.sub (ws' := [(h0, .inr (4, [.ref t, .ref fi, .ref st, .ref mc])), (t, .inr (3, [.int 0, .ref t1, .ref t2, .ref t3, .ref t4, .ref t5, .ref t6, .ref t7, .ref t8, .ref t9]))]) [0, 1] rfl
    refine pn_ci (va_runV (As := [.ref s5, .int 0]) (rest := []) ⟨hx, hb, hml, hown, hts⟩ (c_X4_countClasses l D cI cZ cJ cG s.heap.size h0 t fi st mc t1 t2 t3 t4 t5 t6 t7 t8 t9 s5 0) (cwV 2 hts (pl_V (pl_m 721 (by decide +kernel)) (pl_m 722 (by decide +kernel)) (pl_m 723 (by decide +kernel)) (pl_m 2 (by decide +kernel)) (pl_m 724 (by decide +kernel))) rfl rfl rfl (by decide +kernel) ⟨(Nat.le_of_ble_eq_true rfl), (Nat.le_of_ble_eq_true rfl)⟩) ⟨pn_B_blind, va_recv hK hPc (ci := 4) (q0 := 0) rfl rfl, (pn_B_at hPc hK)⟩ rfl rfl hl.1 rfl (lv_room (Nat.le_of_ble_eq_true rfl)) dX4_many_89 ⟨(Nat.le_of_ble_eq_true rfl), (Nat.le_of_ble_eq_true rfl)⟩) hS hA hP (fun r_1 H locs hw hP hS => ?_)
    have hP : va_P D vwCl [(h0, .inr (4, [.ref t, .ref fi, .ref st, .ref mc])), (t, .inr (3, [.int 0, .ref t1, .ref t2, .ref t3, .ref t4, .ref t5, .ref t6, .ref t7, .ref t8, .ref t9])), (st, .inr (2, [.int 0, .int 0, .long 0, .int 0, .int 0, .ref s5, .ref s6, .ref s7, .ref s8, .ref s9, .ref s10, .ref s11, .ref s12, .ref s13, .ref s14, .ref s15, .ref s16]))] H := hP
    obtain ⟨rfl, hw⟩ := hw
    try simp only [Int32.reduceToInt] at hw
    exact W.iret (v := 0) hx hb hr (fun tz_ ht hW => ⟨⟨0, (), rfl, ⟨rfl, (by first | exact trivial | omega | (simp only [Int32.reduceToInt] at *; omega) | decide)⟩, trivial⟩, hS.F ht⟩) hS.2.2 dX4_many_92
  · refine lv_tableIn (off := 92) (tgt := 93) hx hb dX4_many_1 (by decide) (by decide) (by decide +kernel) (by decide) ?_
    refine lv_aload_n hx hb dX4_many_93 rfl (lv_at hl 0 rfl) ?_
    refine lv_aload_n hx hb dX4_many_94 rfl (lv_at hl 0 rfl) ?_
    refine va_get (D := D) (ci := 4) (v := .ref st) (C := RX4) (T := TX4) (N := 4) hx hb hts inlX4 hown hK hP 0 rfl rfl 2 (by decide) (hts (.fieldLink RX4 28 "VtableTown" "state" "LVtableTown$State;") (pl_m 24 (by decide +kernel))) (fun _ h9 => h9) rfl dX4_many_95 ?_
    refine va_get (D := D) (ci := 2) (v := .ref s5) (C := RX2) (T := TX2) (N := 17) hx hb hts inlX2 hown hK hP 2 rfl rfl 5 (by decide) (hts (.fieldLink RX4 144 "VtableTown$State" "status" "[I") (pl_m 192 (by decide +kernel))) (fun _ h9 => h9) rfl dX4_many_98 ?_
    refine lv_iconst (v := 1) hx hb dX4_many_101 (by decide) ?_
    have hPc := hP.sub (ws' := [(h0, .inr (4, [.ref t, .ref fi, .ref st, .ref mc])), (t, .inr (3, [.int 0, .ref t1, .ref t2, .ref t3, .ref t4, .ref t5, .ref t6, .ref t7, .ref t8, .ref t9]))]) [0, 1] rfl
    refine pn_ci (va_runV (As := [.ref s5, .int 1]) (rest := []) ⟨hx, hb, hml, hown, hts⟩ (c_X4_countClasses l D cI cZ cJ cG s.heap.size h0 t fi st mc t1 t2 t3 t4 t5 t6 t7 t8 t9 s5 1) (cwV 2 hts (pl_V (pl_m 721 (by decide +kernel)) (pl_m 722 (by decide +kernel)) (pl_m 723 (by decide +kernel)) (pl_m 2 (by decide +kernel)) (pl_m 724 (by decide +kernel))) rfl rfl rfl (by decide +kernel) ⟨(Nat.le_of_ble_eq_true rfl), (Nat.le_of_ble_eq_true rfl)⟩) ⟨pn_B_blind, va_recv hK hPc (ci := 4) (q0 := 0) rfl rfl, (pn_B_at hPc hK)⟩ rfl rfl hl.1 rfl (lv_room (Nat.le_of_ble_eq_true rfl)) dX4_many_102 ⟨(Nat.le_of_ble_eq_true rfl), (Nat.le_of_ble_eq_true rfl)⟩) hS hA hP (fun r_2 H locs hw hP hS => ?_)
    have hP : va_P D vwCl [(h0, .inr (4, [.ref t, .ref fi, .ref st, .ref mc])), (t, .inr (3, [.int 0, .ref t1, .ref t2, .ref t3, .ref t4, .ref t5, .ref t6, .ref t7, .ref t8, .ref t9])), (st, .inr (2, [.int 0, .int 0, .long 0, .int 0, .int 0, .ref s5, .ref s6, .ref s7, .ref s8, .ref s9, .ref s10, .ref s11, .ref s12, .ref s13, .ref s14, .ref s15, .ref s16]))] H := hP
    obtain ⟨rfl, hw⟩ := hw
    try simp only [Int32.reduceToInt] at hw
    exact W.iret (v := 0) hx hb hr (fun tz_ ht hW => ⟨⟨0, (), rfl, ⟨rfl, (by first | exact trivial | omega | (simp only [Int32.reduceToInt] at *; omega) | decide)⟩, trivial⟩, hS.F ht⟩) hS.2.2 dX4_many_105
  · refine lv_tableIn (off := 105) (tgt := 106) hx hb dX4_many_1 (by decide) (by decide) (by decide +kernel) (by decide) ?_
    refine lv_aload_n hx hb dX4_many_106 rfl (lv_at hl 0 rfl) ?_
    refine lv_aload_n hx hb dX4_many_107 rfl (lv_at hl 0 rfl) ?_
    refine va_get (D := D) (ci := 4) (v := .ref st) (C := RX4) (T := TX4) (N := 4) hx hb hts inlX4 hown hK hP 0 rfl rfl 2 (by decide) (hts (.fieldLink RX4 28 "VtableTown" "state" "LVtableTown$State;") (pl_m 24 (by decide +kernel))) (fun _ h9 => h9) rfl dX4_many_108 ?_
    refine va_get (D := D) (ci := 2) (v := .ref s5) (C := RX2) (T := TX2) (N := 17) hx hb hts inlX2 hown hK hP 2 rfl rfl 5 (by decide) (hts (.fieldLink RX4 144 "VtableTown$State" "status" "[I") (pl_m 192 (by decide +kernel))) (fun _ h9 => h9) rfl dX4_many_111 ?_
    refine lv_iconst (v := 2) hx hb dX4_many_114 (by decide) ?_
    have hPc := hP.sub (ws' := [(h0, .inr (4, [.ref t, .ref fi, .ref st, .ref mc])), (t, .inr (3, [.int 0, .ref t1, .ref t2, .ref t3, .ref t4, .ref t5, .ref t6, .ref t7, .ref t8, .ref t9]))]) [0, 1] rfl
    refine pn_ci (va_runV (As := [.ref s5, .int 2]) (rest := []) ⟨hx, hb, hml, hown, hts⟩ (c_X4_countClasses l D cI cZ cJ cG s.heap.size h0 t fi st mc t1 t2 t3 t4 t5 t6 t7 t8 t9 s5 2) (cwV 2 hts (pl_V (pl_m 721 (by decide +kernel)) (pl_m 722 (by decide +kernel)) (pl_m 723 (by decide +kernel)) (pl_m 2 (by decide +kernel)) (pl_m 724 (by decide +kernel))) rfl rfl rfl (by decide +kernel) ⟨(Nat.le_of_ble_eq_true rfl), (Nat.le_of_ble_eq_true rfl)⟩) ⟨pn_B_blind, va_recv hK hPc (ci := 4) (q0 := 0) rfl rfl, (pn_B_at hPc hK)⟩ rfl rfl hl.1 rfl (lv_room (Nat.le_of_ble_eq_true rfl)) dX4_many_115 ⟨(Nat.le_of_ble_eq_true rfl), (Nat.le_of_ble_eq_true rfl)⟩) hS hA hP (fun r_3 H locs hw hP hS => ?_)
    have hP : va_P D vwCl [(h0, .inr (4, [.ref t, .ref fi, .ref st, .ref mc])), (t, .inr (3, [.int 0, .ref t1, .ref t2, .ref t3, .ref t4, .ref t5, .ref t6, .ref t7, .ref t8, .ref t9])), (st, .inr (2, [.int 0, .int 0, .long 0, .int 0, .int 0, .ref s5, .ref s6, .ref s7, .ref s8, .ref s9, .ref s10, .ref s11, .ref s12, .ref s13, .ref s14, .ref s15, .ref s16]))] H := hP
    obtain ⟨rfl, hw⟩ := hw
    try simp only [Int32.reduceToInt] at hw
    exact W.iret (v := 0) hx hb hr (fun tz_ ht hW => ⟨⟨0, (), rfl, ⟨rfl, (by first | exact trivial | omega | (simp only [Int32.reduceToInt] at *; omega) | decide)⟩, trivial⟩, hS.F ht⟩) hS.2.2 dX4_many_118
  · refine lv_tableIn (off := 118) (tgt := 119) hx hb dX4_many_1 (by decide) (by decide) (by decide +kernel) (by decide) ?_
    refine lv_aload_n hx hb dX4_many_119 rfl (lv_at hl 0 rfl) ?_
    refine lv_aload_n hx hb dX4_many_120 rfl (lv_at hl 0 rfl) ?_
    refine va_get (D := D) (ci := 4) (v := .ref st) (C := RX4) (T := TX4) (N := 4) hx hb hts inlX4 hown hK hP 0 rfl rfl 2 (by decide) (hts (.fieldLink RX4 28 "VtableTown" "state" "LVtableTown$State;") (pl_m 24 (by decide +kernel))) (fun _ h9 => h9) rfl dX4_many_121 ?_
    refine va_get (D := D) (ci := 2) (v := .ref s7) (C := RX2) (T := TX2) (N := 17) hx hb hts inlX2 hown hK hP 2 rfl rfl 7 (by decide) (hts (.fieldLink RX4 150 "VtableTown$State" "wakes" "[I") (pl_m 624 (by decide +kernel))) (fun _ h9 => h9) rfl dX4_many_124 ?_
    refine lv_iconst (v := 2) hx hb dX4_many_127 (by decide) ?_
    have hPc := hP.sub (ws' := [(h0, .inr (4, [.ref t, .ref fi, .ref st, .ref mc])), (t, .inr (3, [.int 0, .ref t1, .ref t2, .ref t3, .ref t4, .ref t5, .ref t6, .ref t7, .ref t8, .ref t9]))]) [0, 1] rfl
    refine pn_ci (va_runV (As := [.ref s7, .int 2]) (rest := []) ⟨hx, hb, hml, hown, hts⟩ (c_X4_countClasses l D cI cZ cJ cG s.heap.size h0 t fi st mc t1 t2 t3 t4 t5 t6 t7 t8 t9 s7 2) (cwV 2 hts (pl_V (pl_m 721 (by decide +kernel)) (pl_m 722 (by decide +kernel)) (pl_m 723 (by decide +kernel)) (pl_m 2 (by decide +kernel)) (pl_m 724 (by decide +kernel))) rfl rfl rfl (by decide +kernel) ⟨(Nat.le_of_ble_eq_true rfl), (Nat.le_of_ble_eq_true rfl)⟩) ⟨pn_B_blind, va_recv hK hPc (ci := 4) (q0 := 0) rfl rfl, (pn_B_at hPc hK)⟩ rfl rfl hl.1 rfl (lv_room (Nat.le_of_ble_eq_true rfl)) dX4_many_128 ⟨(Nat.le_of_ble_eq_true rfl), (Nat.le_of_ble_eq_true rfl)⟩) hS hA hP (fun r_4 H locs hw hP hS => ?_)
    have hP : va_P D vwCl [(h0, .inr (4, [.ref t, .ref fi, .ref st, .ref mc])), (t, .inr (3, [.int 0, .ref t1, .ref t2, .ref t3, .ref t4, .ref t5, .ref t6, .ref t7, .ref t8, .ref t9])), (st, .inr (2, [.int 0, .int 0, .long 0, .int 0, .int 0, .ref s5, .ref s6, .ref s7, .ref s8, .ref s9, .ref s10, .ref s11, .ref s12, .ref s13, .ref s14, .ref s15, .ref s16]))] H := hP
    obtain ⟨rfl, hw⟩ := hw
    try simp only [Int32.reduceToInt] at hw
    exact W.iret (v := 0) hx hb hr (fun tz_ ht hW => ⟨⟨0, (), rfl, ⟨rfl, (by first | exact trivial | omega | (simp only [Int32.reduceToInt] at *; omega) | decide)⟩, trivial⟩, hS.F ht⟩) hS.2.2 dX4_many_131
  · refine lv_tableIn (off := 131) (tgt := 132) hx hb dX4_many_1 (by decide) (by decide) (by decide +kernel) (by decide) ?_
    refine lv_aload_n hx hb dX4_many_132 rfl (lv_at hl 0 rfl) ?_
    have hPc := hP.sub (ws' := [(h0, .inr (4, [.ref t, .ref fi, .ref st, .ref mc])), (t, .inr (3, [.int 0, .ref t1, .ref t2, .ref t3, .ref t4, .ref t5, .ref t6, .ref t7, .ref t8, .ref t9]))]) [0, 1] rfl
    refine pn_ci (va_runV (As := []) (rest := []) ⟨hx, hb, hml, hown, hts⟩ (c_X4_countPlaces l D cI cZ cJ cG s.heap.size h0 t fi st mc t1 t2 t3 t4 t5 t6 t7 t8 t9) (cwV 0 hts (pl_V (pl_m 725 (by decide +kernel)) (pl_m 726 (by decide +kernel)) (pl_m 727 (by decide +kernel)) (pl_m 2 (by decide +kernel)) (pl_m 728 (by decide +kernel))) rfl rfl rfl (by decide +kernel) ⟨(Nat.le_of_ble_eq_true rfl), (Nat.le_of_ble_eq_true rfl)⟩) ⟨pn_B_blind, va_recv hK hPc (ci := 4) (q0 := 0) rfl rfl, (pn_B_at hPc hK)⟩ rfl rfl hl.1 rfl (lv_room (Nat.le_of_ble_eq_true rfl)) dX4_many_133 ⟨(Nat.le_of_ble_eq_true rfl), (Nat.le_of_ble_eq_true rfl)⟩) hS hA hP (fun r_5 H locs hw hP hS => ?_)
    have hP : va_P D vwCl [(h0, .inr (4, [.ref t, .ref fi, .ref st, .ref mc])), (t, .inr (3, [.int 0, .ref t1, .ref t2, .ref t3, .ref t4, .ref t5, .ref t6, .ref t7, .ref t8, .ref t9])), (st, .inr (2, [.int 0, .int 0, .long 0, .int 0, .int 0, .ref s5, .ref s6, .ref s7, .ref s8, .ref s9, .ref s10, .ref s11, .ref s12, .ref s13, .ref s14, .ref s15, .ref s16]))] H := hP
    obtain ⟨rfl, hw⟩ := hw
    try simp only [Int32.reduceToInt] at hw
    exact W.iret (v := 0) hx hb hr (fun tz_ ht hW => ⟨⟨0, (), rfl, ⟨rfl, (by first | exact trivial | omega | (simp only [Int32.reduceToInt] at *; omega) | decide)⟩, trivial⟩, hS.F ht⟩) hS.2.2 dX4_many_136
  · refine lv_tableIn (off := 136) (tgt := 137) hx hb dX4_many_1 (by decide) (by decide) (by decide +kernel) (by decide) ?_
    refine lv_aload_n hx hb dX4_many_137 rfl (lv_at hl 0 rfl) ?_
    refine lv_aload_n hx hb dX4_many_138 rfl (lv_at hl 0 rfl) ?_
    refine va_get (D := D) (ci := 4) (v := .ref st) (C := RX4) (T := TX4) (N := 4) hx hb hts inlX4 hown hK hP 0 rfl rfl 2 (by decide) (hts (.fieldLink RX4 28 "VtableTown" "state" "LVtableTown$State;") (pl_m 24 (by decide +kernel))) (fun _ h9 => h9) rfl dX4_many_139 ?_
    refine va_get (D := D) (ci := 2) (v := .ref s11) (C := RX2) (T := TX2) (N := 17) hx hb hts inlX2 hown hK hP 2 rfl rfl 11 (by decide) (hts (.fieldLink RX4 184 "VtableTown$State" "direct" "[I") (pl_m 691 (by decide +kernel))) (fun _ h9 => h9) rfl dX4_many_142 ?_
    have hPc := hP.sub (ws' := [(h0, .inr (4, [.ref t, .ref fi, .ref st, .ref mc])), (t, .inr (3, [.int 0, .ref t1, .ref t2, .ref t3, .ref t4, .ref t5, .ref t6, .ref t7, .ref t8, .ref t9]))]) [0, 1] rfl
    refine pn_ci (va_runV (As := [.ref s11]) (rest := []) ⟨hx, hb, hml, hown, hts⟩ (c_X4_sumOfPlaces l D cI cZ cJ cG s.heap.size h0 t fi st mc t1 t2 t3 t4 t5 t6 t7 t8 t9 s11) (cwV 1 hts (pl_V (pl_m 729 (by decide +kernel)) (pl_m 730 (by decide +kernel)) (pl_m 731 (by decide +kernel)) (pl_m 2 (by decide +kernel)) (pl_m 732 (by decide +kernel))) rfl rfl rfl (by decide +kernel) ⟨(Nat.le_of_ble_eq_true rfl), (Nat.le_of_ble_eq_true rfl)⟩) ⟨pn_B_blind, va_recv hK hPc (ci := 4) (q0 := 0) rfl rfl, (pn_B_at hPc hK)⟩ rfl rfl hl.1 rfl (lv_room (Nat.le_of_ble_eq_true rfl)) dX4_many_145 ⟨(Nat.le_of_ble_eq_true rfl), (Nat.le_of_ble_eq_true rfl)⟩) hS hA hP (fun r_6 H locs hw hP hS => ?_)
    have hP : va_P D vwCl [(h0, .inr (4, [.ref t, .ref fi, .ref st, .ref mc])), (t, .inr (3, [.int 0, .ref t1, .ref t2, .ref t3, .ref t4, .ref t5, .ref t6, .ref t7, .ref t8, .ref t9])), (st, .inr (2, [.int 0, .int 0, .long 0, .int 0, .int 0, .ref s5, .ref s6, .ref s7, .ref s8, .ref s9, .ref s10, .ref s11, .ref s12, .ref s13, .ref s14, .ref s15, .ref s16]))] H := hP
    obtain ⟨rfl, hw⟩ := hw
    try simp only [Int32.reduceToInt] at hw
    exact W.iret (v := 0) hx hb hr (fun tz_ ht hW => ⟨⟨0, (), rfl, ⟨rfl, (by first | exact trivial | omega | (simp only [Int32.reduceToInt] at *; omega) | decide)⟩, trivial⟩, hS.F ht⟩) hS.2.2 dX4_many_148
  · refine lv_tableIn (off := 148) (tgt := 149) hx hb dX4_many_1 (by decide) (by decide) (by decide +kernel) (by decide) ?_
    refine lv_aload_n hx hb dX4_many_149 rfl (lv_at hl 0 rfl) ?_
    refine lv_aload_n hx hb dX4_many_150 rfl (lv_at hl 0 rfl) ?_
    refine va_get (D := D) (ci := 4) (v := .ref st) (C := RX4) (T := TX4) (N := 4) hx hb hts inlX4 hown hK hP 0 rfl rfl 2 (by decide) (hts (.fieldLink RX4 28 "VtableTown" "state" "LVtableTown$State;") (pl_m 24 (by decide +kernel))) (fun _ h9 => h9) rfl dX4_many_151 ?_
    refine va_get (D := D) (ci := 2) (v := .ref s15) (C := RX2) (T := TX2) (N := 17) hx hb hts inlX2 hown hK hP 2 rfl rfl 15 (by decide) (hts (.fieldLink RX4 196 "VtableTown$State" "gaveUp" "[I") (pl_m 694 (by decide +kernel))) (fun _ h9 => h9) rfl dX4_many_154 ?_
    have hPc := hP.sub (ws' := [(h0, .inr (4, [.ref t, .ref fi, .ref st, .ref mc])), (t, .inr (3, [.int 0, .ref t1, .ref t2, .ref t3, .ref t4, .ref t5, .ref t6, .ref t7, .ref t8, .ref t9]))]) [0, 1] rfl
    refine pn_ci (va_runV (As := [.ref s15]) (rest := []) ⟨hx, hb, hml, hown, hts⟩ (c_X4_sumOfPlaces l D cI cZ cJ cG s.heap.size h0 t fi st mc t1 t2 t3 t4 t5 t6 t7 t8 t9 s15) (cwV 1 hts (pl_V (pl_m 729 (by decide +kernel)) (pl_m 730 (by decide +kernel)) (pl_m 731 (by decide +kernel)) (pl_m 2 (by decide +kernel)) (pl_m 732 (by decide +kernel))) rfl rfl rfl (by decide +kernel) ⟨(Nat.le_of_ble_eq_true rfl), (Nat.le_of_ble_eq_true rfl)⟩) ⟨pn_B_blind, va_recv hK hPc (ci := 4) (q0 := 0) rfl rfl, (pn_B_at hPc hK)⟩ rfl rfl hl.1 rfl (lv_room (Nat.le_of_ble_eq_true rfl)) dX4_many_157 ⟨(Nat.le_of_ble_eq_true rfl), (Nat.le_of_ble_eq_true rfl)⟩) hS hA hP (fun r_7 H locs hw hP hS => ?_)
    have hP : va_P D vwCl [(h0, .inr (4, [.ref t, .ref fi, .ref st, .ref mc])), (t, .inr (3, [.int 0, .ref t1, .ref t2, .ref t3, .ref t4, .ref t5, .ref t6, .ref t7, .ref t8, .ref t9])), (st, .inr (2, [.int 0, .int 0, .long 0, .int 0, .int 0, .ref s5, .ref s6, .ref s7, .ref s8, .ref s9, .ref s10, .ref s11, .ref s12, .ref s13, .ref s14, .ref s15, .ref s16]))] H := hP
    obtain ⟨rfl, hw⟩ := hw
    try simp only [Int32.reduceToInt] at hw
    exact W.iret (v := 0) hx hb hr (fun tz_ ht hW => ⟨⟨0, (), rfl, ⟨rfl, (by first | exact trivial | omega | (simp only [Int32.reduceToInt] at *; omega) | decide)⟩, trivial⟩, hS.F ht⟩) hS.2.2 dX4_many_160
  · refine lv_tableIn (off := 160) (tgt := 161) hx hb dX4_many_1 (by decide) (by decide) (by decide +kernel) (by decide) ?_
    refine lv_aload_n hx hb dX4_many_161 rfl (lv_at hl 0 rfl) ?_
    refine lv_aload_n hx hb dX4_many_162 rfl (lv_at hl 0 rfl) ?_
    refine va_get (D := D) (ci := 4) (v := .ref st) (C := RX4) (T := TX4) (N := 4) hx hb hts inlX4 hown hK hP 0 rfl rfl 2 (by decide) (hts (.fieldLink RX4 28 "VtableTown" "state" "LVtableTown$State;") (pl_m 24 (by decide +kernel))) (fun _ h9 => h9) rfl dX4_many_163 ?_
    refine va_get (D := D) (ci := 2) (v := .ref s16) (C := RX2) (T := TX2) (N := 17) hx hb hts inlX2 hown hK hP 2 rfl rfl 16 (by decide) (hts (.fieldLink RX4 199 "VtableTown$State" "turned" "[I") (pl_m 695 (by decide +kernel))) (fun _ h9 => h9) rfl dX4_many_166 ?_
    have hPc := hP.sub (ws' := [(h0, .inr (4, [.ref t, .ref fi, .ref st, .ref mc])), (t, .inr (3, [.int 0, .ref t1, .ref t2, .ref t3, .ref t4, .ref t5, .ref t6, .ref t7, .ref t8, .ref t9]))]) [0, 1] rfl
    refine pn_ci (va_runV (As := [.ref s16]) (rest := []) ⟨hx, hb, hml, hown, hts⟩ (c_X4_sumOfPlaces l D cI cZ cJ cG s.heap.size h0 t fi st mc t1 t2 t3 t4 t5 t6 t7 t8 t9 s16) (cwV 1 hts (pl_V (pl_m 729 (by decide +kernel)) (pl_m 730 (by decide +kernel)) (pl_m 731 (by decide +kernel)) (pl_m 2 (by decide +kernel)) (pl_m 732 (by decide +kernel))) rfl rfl rfl (by decide +kernel) ⟨(Nat.le_of_ble_eq_true rfl), (Nat.le_of_ble_eq_true rfl)⟩) ⟨pn_B_blind, va_recv hK hPc (ci := 4) (q0 := 0) rfl rfl, (pn_B_at hPc hK)⟩ rfl rfl hl.1 rfl (lv_room (Nat.le_of_ble_eq_true rfl)) dX4_many_169 ⟨(Nat.le_of_ble_eq_true rfl), (Nat.le_of_ble_eq_true rfl)⟩) hS hA hP (fun r_8 H locs hw hP hS => ?_)
    have hP : va_P D vwCl [(h0, .inr (4, [.ref t, .ref fi, .ref st, .ref mc])), (t, .inr (3, [.int 0, .ref t1, .ref t2, .ref t3, .ref t4, .ref t5, .ref t6, .ref t7, .ref t8, .ref t9])), (st, .inr (2, [.int 0, .int 0, .long 0, .int 0, .int 0, .ref s5, .ref s6, .ref s7, .ref s8, .ref s9, .ref s10, .ref s11, .ref s12, .ref s13, .ref s14, .ref s15, .ref s16]))] H := hP
    obtain ⟨rfl, hw⟩ := hw
    try simp only [Int32.reduceToInt] at hw
    exact W.iret (v := 0) hx hb hr (fun tz_ ht hW => ⟨⟨0, (), rfl, ⟨rfl, (by first | exact trivial | omega | (simp only [Int32.reduceToInt] at *; omega) | decide)⟩, trivial⟩, hS.F ht⟩) hS.2.2 dX4_many_172
  · refine lv_tableIn (off := 172) (tgt := 173) hx hb dX4_many_1 (by decide) (by decide) (by decide +kernel) (by decide) ?_
    refine lv_aload_n hx hb dX4_many_173 rfl (lv_at hl 0 rfl) ?_
    refine lv_aload_n hx hb dX4_many_174 rfl (lv_at hl 0 rfl) ?_
    refine va_get (D := D) (ci := 4) (v := .ref st) (C := RX4) (T := TX4) (N := 4) hx hb hts inlX4 hown hK hP 0 rfl rfl 2 (by decide) (hts (.fieldLink RX4 28 "VtableTown" "state" "LVtableTown$State;") (pl_m 24 (by decide +kernel))) (fun _ h9 => h9) rfl dX4_many_175 ?_
    refine va_get (D := D) (ci := 2) (v := .ref s13) (C := RX2) (T := TX2) (N := 17) hx hb hts inlX2 hown hK hP 2 rfl rfl 13 (by decide) (hts (.fieldLink RX4 190 "VtableTown$State" "hits" "[I") (pl_m 692 (by decide +kernel))) (fun _ h9 => h9) rfl dX4_many_178 ?_
    have hPc := hP.sub (ws' := [(h0, .inr (4, [.ref t, .ref fi, .ref st, .ref mc])), (t, .inr (3, [.int 0, .ref t1, .ref t2, .ref t3, .ref t4, .ref t5, .ref t6, .ref t7, .ref t8, .ref t9]))]) [0, 1] rfl
    refine pn_ci (va_runV (As := [.ref s13]) (rest := []) ⟨hx, hb, hml, hown, hts⟩ (c_X4_sumOfPlaces l D cI cZ cJ cG s.heap.size h0 t fi st mc t1 t2 t3 t4 t5 t6 t7 t8 t9 s13) (cwV 1 hts (pl_V (pl_m 729 (by decide +kernel)) (pl_m 730 (by decide +kernel)) (pl_m 731 (by decide +kernel)) (pl_m 2 (by decide +kernel)) (pl_m 732 (by decide +kernel))) rfl rfl rfl (by decide +kernel) ⟨(Nat.le_of_ble_eq_true rfl), (Nat.le_of_ble_eq_true rfl)⟩) ⟨pn_B_blind, va_recv hK hPc (ci := 4) (q0 := 0) rfl rfl, (pn_B_at hPc hK)⟩ rfl rfl hl.1 rfl (lv_room (Nat.le_of_ble_eq_true rfl)) dX4_many_181 ⟨(Nat.le_of_ble_eq_true rfl), (Nat.le_of_ble_eq_true rfl)⟩) hS hA hP (fun r_9 H locs hw hP hS => ?_)
    have hP : va_P D vwCl [(h0, .inr (4, [.ref t, .ref fi, .ref st, .ref mc])), (t, .inr (3, [.int 0, .ref t1, .ref t2, .ref t3, .ref t4, .ref t5, .ref t6, .ref t7, .ref t8, .ref t9])), (st, .inr (2, [.int 0, .int 0, .long 0, .int 0, .int 0, .ref s5, .ref s6, .ref s7, .ref s8, .ref s9, .ref s10, .ref s11, .ref s12, .ref s13, .ref s14, .ref s15, .ref s16]))] H := hP
    obtain ⟨rfl, hw⟩ := hw
    try simp only [Int32.reduceToInt] at hw
    exact W.iret (v := 0) hx hb hr (fun tz_ ht hW => ⟨⟨0, (), rfl, ⟨rfl, (by first | exact trivial | omega | (simp only [Int32.reduceToInt] at *; omega) | decide)⟩, trivial⟩, hS.F ht⟩) hS.2.2 dX4_many_184
  · refine lv_tableIn (off := 184) (tgt := 185) hx hb dX4_many_1 (by decide) (by decide) (by decide +kernel) (by decide) ?_
    refine lv_aload_n hx hb dX4_many_185 rfl (lv_at hl 0 rfl) ?_
    refine lv_aload_n hx hb dX4_many_186 rfl (lv_at hl 0 rfl) ?_
    refine va_get (D := D) (ci := 4) (v := .ref st) (C := RX4) (T := TX4) (N := 4) hx hb hts inlX4 hown hK hP 0 rfl rfl 2 (by decide) (hts (.fieldLink RX4 28 "VtableTown" "state" "LVtableTown$State;") (pl_m 24 (by decide +kernel))) (fun _ h9 => h9) rfl dX4_many_187 ?_
    refine va_get (D := D) (ci := 2) (v := .ref s14) (C := RX2) (T := TX2) (N := 17) hx hb hts inlX2 hown hK hP 2 rfl rfl 14 (by decide) (hts (.fieldLink RX4 193 "VtableTown$State" "misses" "[I") (pl_m 693 (by decide +kernel))) (fun _ h9 => h9) rfl dX4_many_190 ?_
    have hPc := hP.sub (ws' := [(h0, .inr (4, [.ref t, .ref fi, .ref st, .ref mc])), (t, .inr (3, [.int 0, .ref t1, .ref t2, .ref t3, .ref t4, .ref t5, .ref t6, .ref t7, .ref t8, .ref t9]))]) [0, 1] rfl
    refine pn_ci (va_runV (As := [.ref s14]) (rest := []) ⟨hx, hb, hml, hown, hts⟩ (c_X4_sumOfPlaces l D cI cZ cJ cG s.heap.size h0 t fi st mc t1 t2 t3 t4 t5 t6 t7 t8 t9 s14) (cwV 1 hts (pl_V (pl_m 729 (by decide +kernel)) (pl_m 730 (by decide +kernel)) (pl_m 731 (by decide +kernel)) (pl_m 2 (by decide +kernel)) (pl_m 732 (by decide +kernel))) rfl rfl rfl (by decide +kernel) ⟨(Nat.le_of_ble_eq_true rfl), (Nat.le_of_ble_eq_true rfl)⟩) ⟨pn_B_blind, va_recv hK hPc (ci := 4) (q0 := 0) rfl rfl, (pn_B_at hPc hK)⟩ rfl rfl hl.1 rfl (lv_room (Nat.le_of_ble_eq_true rfl)) dX4_many_193 ⟨(Nat.le_of_ble_eq_true rfl), (Nat.le_of_ble_eq_true rfl)⟩) hS hA hP (fun r_10 H locs hw hP hS => ?_)
    have hP : va_P D vwCl [(h0, .inr (4, [.ref t, .ref fi, .ref st, .ref mc])), (t, .inr (3, [.int 0, .ref t1, .ref t2, .ref t3, .ref t4, .ref t5, .ref t6, .ref t7, .ref t8, .ref t9])), (st, .inr (2, [.int 0, .int 0, .long 0, .int 0, .int 0, .ref s5, .ref s6, .ref s7, .ref s8, .ref s9, .ref s10, .ref s11, .ref s12, .ref s13, .ref s14, .ref s15, .ref s16]))] H := hP
    obtain ⟨rfl, hw⟩ := hw
    try simp only [Int32.reduceToInt] at hw
    exact W.iret (v := 0) hx hb hr (fun tz_ ht hW => ⟨⟨0, (), rfl, ⟨rfl, (by first | exact trivial | omega | (simp only [Int32.reduceToInt] at *; omega) | decide)⟩, trivial⟩, hS.F ht⟩) hS.2.2 dX4_many_196
  · refine lv_tableIn (off := 196) (tgt := 197) hx hb dX4_many_1 (by decide) (by decide) (by decide +kernel) (by decide) ?_
    refine lv_aload_n hx hb dX4_many_197 rfl (lv_at hl 0 rfl) ?_
    refine va_get (D := D) (ci := 4) (v := .ref st) (C := RX4) (T := TX4) (N := 4) hx hb hts inlX4 hown hK hP 0 rfl rfl 2 (by decide) (hts (.fieldLink RX4 28 "VtableTown" "state" "LVtableTown$State;") (pl_m 24 (by decide +kernel))) (fun _ h9 => h9) rfl dX4_many_198 ?_
    refine va_get (D := D) (ci := 2) (v := .int 0) (C := RX2) (T := TX2) (N := 17) hx hb hts inlX2 hown hK hP 2 rfl rfl 1 (by decide) (hts (.fieldLink RX4 219 "VtableTown$State" "runs" "I") (pl_m 718 (by decide +kernel))) (fun _ h9 => h9) rfl dX4_many_201 ?_
    exact W.iret (v := 0) hx hb hr (fun tz_ ht hW => ⟨⟨0, (), rfl, ⟨rfl, (by first | exact trivial | omega | (simp only [Int32.reduceToInt] at *; omega) | decide)⟩, trivial⟩, hS.F ht⟩) hS.2.2 dX4_many_204
  · refine lv_tableIn (off := 204) (tgt := 205) hx hb dX4_many_1 (by decide) (by decide) (by decide +kernel) (by decide) ?_
    refine lv_aload_n hx hb dX4_many_205 rfl (lv_at hl 0 rfl) ?_
    refine va_get (D := D) (ci := 4) (v := .ref st) (C := RX4) (T := TX4) (N := 4) hx hb hts inlX4 hown hK hP 0 rfl rfl 2 (by decide) (hts (.fieldLink RX4 28 "VtableTown" "state" "LVtableTown$State;") (pl_m 24 (by decide +kernel))) (fun _ h9 => h9) rfl dX4_many_206 ?_
    refine va_get (D := D) (ci := 2) (v := .int 0) (C := RX2) (T := TX2) (N := 17) hx hb hts inlX2 hown hK hP 2 rfl rfl 3 (by decide) (hts (.fieldLink RX4 222 "VtableTown$State" "lastCost" "I") (pl_m 719 (by decide +kernel))) (fun _ h9 => h9) rfl dX4_many_209 ?_
    exact W.iret (v := 0) hx hb hr (fun tz_ ht hW => ⟨⟨0, (), rfl, ⟨rfl, (by first | exact trivial | omega | (simp only [Int32.reduceToInt] at *; omega) | decide)⟩, trivial⟩, hS.F ht⟩) hS.2.2 dX4_many_212
  · refine lv_tableIn (off := 212) (tgt := 213) hx hb dX4_many_1 (by decide) (by decide) (by decide +kernel) (by decide) ?_
    refine lv_aload_n hx hb dX4_many_213 rfl (lv_at hl 0 rfl) ?_
    refine va_get (D := D) (ci := 4) (v := .ref st) (C := RX4) (T := TX4) (N := 4) hx hb hts inlX4 hown hK hP 0 rfl rfl 2 (by decide) (hts (.fieldLink RX4 28 "VtableTown" "state" "LVtableTown$State;") (pl_m 24 (by decide +kernel))) (fun _ h9 => h9) rfl dX4_many_214 ?_
    refine va_get (D := D) (ci := 2) (v := .int 0) (C := RX2) (T := TX2) (N := 17) hx hb hts inlX2 hown hK hP 2 rfl rfl 4 (by decide) (hts (.fieldLink RX4 225 "VtableTown$State" "lastSteps" "I") (pl_m 720 (by decide +kernel))) (fun _ h9 => h9) rfl dX4_many_217 ?_
    exact W.iret (v := 0) hx hb hr (fun tz_ ht hW => ⟨⟨0, (), rfl, ⟨rfl, (by first | exact trivial | omega | (simp only [Int32.reduceToInt] at *; omega) | decide)⟩, trivial⟩, hS.F ht⟩) hS.2.2 dX4_many_220
set_option maxHeartbeats 4000000 in
set_option maxRecDepth 100000 in
theorem c_X4_digest (l : Launch) (D : va_G) (cI cZ cJ cG : ClassId) (sz : Nat) (h0 : Nat) (t : Nat) (fi : Nat) (st : Nat) (mc : Nat) (t1 : Nat) (t2 : Nat) (t3 : Nat) (t4 : Nat) (t5 : Nat) (t6 : Nat) (t7 : Nat) (t8 : Nat) (t9 : Nat) (s5 : Nat) (s6 : Nat) (s7 : Nat) (s8 : Nat) (s9 : Nat) (s10 : Nat) (s11 : Nat) (s12 : Nat) (s13 : Nat) (s14 : Nat) (s15 : Nat) (s16 : Nat) : Met l yX4_digest (pl_h yX4_digest cX4_digest 4 (some .long)) ({ frames := 2, cells := 0, slots := 0, locals := 45 }) (va_Pc [.ref h0] (pn_B D (pn_Y cI cZ cJ cG) [(h0, .inr (4, [.ref t, .ref fi, .ref st, .ref mc])), (t, .inr (3, [.int 0, .ref t1, .ref t2, .ref t3, .ref t4, .ref t5, .ref t6, .ref t7, .ref t8, .ref t9])), (st, .inr (2, [.int 0, .int 0, .long 0, .int 0, .int 0, .ref s5, .ref s6, .ref s7, .ref s8, .ref s9, .ref s10, .ref s11, .ref s12, .ref s13, .ref s14, .ref s15, .ref s16]))] sz)) (va_Ql (fun (r : Int64) (u : Unit) => (r = (-8624976736318270479) ∧ True)) (fun _ _ => True) (pn_N sz)) 0 0 (pn_N sz) := by
  refine Met.ofW (cc := cX4_digest) (maxL := 4) (ret := (some .long)) (by decide) rfl ?_
  intro p e s m args below meth c s₁ B hml hv
  obtain ⟨rfl, hsz, hP, hK⟩ := hv
  have hx := B.exec
  have hb := B.bytes
  have hr := B.returns
  have hts0 := atoms_spec (ws := pl_h yX4_digest cX4_digest 4 (some .long)) B.pre
  have hts := fun (w : Cond) (h : w ∈ pw_all) => hts0 w (List.mem_cons_of_mem _ h)
  have hown : s.vm.findClass RX4 = some m.cls := findClass_of_methodNamed B.named
  have hlocks := B.notSynchronized
  subst hsz
  have hA : ∀ q : Nat, s.heap.size ≤ q → pn_N s.heap.size q := fun q h => h
  have hS : va_S (pn_N s.heap.size) s.heap s.heap [] := va_S.rf
  have hl := lv_entry ([.ref h0]) (n := 4) (Nat.le_of_ble_eq_true rfl)
  rw [lg_entry_eq]
  generalize (lg_sl ([.ref h0]) ++ List.replicate (4 - (lg_sl ([.ref h0])).length) Slot.unset).toArray = ls at hl ⊢
  have hl : lv_has ls 4 [(0, .ref h0)] := hl
  refine lv_ldc2 hx hb hown (hts (.constantLong RX4 243 (7601)) (pl_m 847 (by decide +kernel))) dX4_digest_0 ?_
  refine lv_lstore_n (lv' := [(1, .long 7601), (0, .ref h0)]) hx hb dX4_digest_3 rfl hl (by decide) rfl (fun ls hl => ?_)
  refine lv_iconst (v := 0) hx hb dX4_digest_4 (by decide) ?_
  refine lv_istore_n (lv' := [(3, .int 0), (1, .long 7601), (0, .ref h0)]) hx hb dX4_digest_5 rfl hl (by decide) rfl (fun ls hl => ?_)
  refine lv_iload_n hx hb dX4_digest_6 rfl (lv_at hl 0 rfl) ?_
  refine lv_bipush (v := 13) hx hb dX4_digest_7 (by decide) ?_
  refine lv_icmp_gt (tgt := 31) hx hb dX4_digest_9 (by decide) (fun h9 => absurd h9 (by decide)) (fun _ => ?_)
  refine lv_lload_n hx hb dX4_digest_12 rfl (lv_at hl 1 rfl) ?_
  refine lv_ldc2 hx hb hown (hts (.constantLong RX4 245 (31)) (pl_m 848 (by decide +kernel))) dX4_digest_13 ?_
  refine lv_lmul hx hb dX4_digest_16 ?_
  refine lv_topl (fun f_1 ef_1 => ?_)
  have ef_1 : f_1 = 235631 := by rw [ef_1]; decide +kernel
  subst ef_1
  refine lv_aload_n hx hb dX4_digest_17 rfl (lv_at hl 2 rfl) ?_
  refine lv_iload_n hx hb dX4_digest_18 rfl (lv_at hl 0 rfl) ?_
  have hPc := hP.sub (ws' := [(h0, .inr (4, [.ref t, .ref fi, .ref st, .ref mc])), (t, .inr (3, [.int 0, .ref t1, .ref t2, .ref t3, .ref t4, .ref t5, .ref t6, .ref t7, .ref t8, .ref t9])), (st, .inr (2, [.int 0, .int 0, .long 0, .int 0, .int 0, .ref s5, .ref s6, .ref s7, .ref s8, .ref s9, .ref s10, .ref s11, .ref s12, .ref s13, .ref s14, .ref s15, .ref s16]))]) [0, 1, 2] rfl
  refine pn_ci (va_runV (As := [.int 0]) (rest := [.long 235631]) ⟨hx, hb, hml, hown, hts⟩ (c_X4_many_ok l D cI cZ cJ cG s.heap.size h0 t fi st mc t1 t2 t3 t4 t5 t6 t7 t8 t9 s5 s6 s7 s8 s9 s10 s11 s12 s13 s14 s15 s16 0 (by decide)) (cwV 1 hts (pl_V (pl_m 849 (by decide +kernel)) (pl_m 715 (by decide +kernel)) (pl_m 716 (by decide +kernel)) (pl_m 2 (by decide +kernel)) (pl_m 717 (by decide +kernel))) rfl rfl rfl (by decide +kernel) ⟨(Nat.le_of_ble_eq_true rfl), (Nat.le_of_ble_eq_true rfl)⟩) ⟨pn_B_blind, va_recv hK hPc (ci := 4) (q0 := 0) rfl rfl, (pn_B_at hPc hK)⟩ rfl rfl hl.1 rfl (lv_room (Nat.le_of_ble_eq_true rfl)) dX4_digest_19 ⟨(Nat.le_of_ble_eq_true rfl), (Nat.le_of_ble_eq_true rfl)⟩) hS hA hP (fun r_2 H locs hw hP hS => ?_)
  have hP : va_P D vwCl [(h0, .inr (4, [.ref t, .ref fi, .ref st, .ref mc])), (t, .inr (3, [.int 0, .ref t1, .ref t2, .ref t3, .ref t4, .ref t5, .ref t6, .ref t7, .ref t8, .ref t9])), (st, .inr (2, [.int 0, .int 0, .long 0, .int 0, .int 0, .ref s5, .ref s6, .ref s7, .ref s8, .ref s9, .ref s10, .ref s11, .ref s12, .ref s13, .ref s14, .ref s15, .ref s16]))] H := hP
  obtain ⟨rfl, hw⟩ := hw
  try simp only [Int32.reduceToInt] at hw
  refine lv_i2l (v := 0) hx hb dX4_digest_22 (by decide +kernel) ?_
  refine lv_ladd hx hb dX4_digest_23 ?_
  refine lv_topl (fun f_3 ef_3 => ?_)
  have ef_3 : f_3 = 235631 := by rw [ef_3]; decide +kernel
  subst ef_3
  refine lv_lstore_n (lv' := [(1, .long 235631), (3, .int 0), (0, .ref h0)]) hx hb dX4_digest_24 rfl hl (by decide) rfl (fun ls hl => ?_)
  refine lv_iinc (v := 1) (lv' := [(3, .int 1), (1, .long 235631), (0, .ref h0)]) hx hb dX4_digest_25 hl (k := 1) rfl (by decide) (by decide) rfl (fun ls hl => ?_)
  refine lv_goto (tgt := 6) hx hb dX4_digest_28 (by decide) ?_
  refine lv_iload_n hx hb dX4_digest_6 rfl (lv_at hl 0 rfl) ?_
  refine lv_bipush (v := 13) hx hb dX4_digest_7 (by decide) ?_
  refine lv_icmp_gt (tgt := 31) hx hb dX4_digest_9 (by decide) (fun h9 => absurd h9 (by decide)) (fun _ => ?_)
  refine lv_lload_n hx hb dX4_digest_12 rfl (lv_at hl 1 rfl) ?_
  refine lv_ldc2 hx hb hown (hts (.constantLong RX4 245 (31)) (pl_m 848 (by decide +kernel))) dX4_digest_13 ?_
  refine lv_lmul hx hb dX4_digest_16 ?_
  refine lv_topl (fun f_4 ef_4 => ?_)
  have ef_4 : f_4 = 7304561 := by rw [ef_4]; decide +kernel
  subst ef_4
  refine lv_aload_n hx hb dX4_digest_17 rfl (lv_at hl 2 rfl) ?_
  refine lv_iload_n hx hb dX4_digest_18 rfl (lv_at hl 0 rfl) ?_
  have hPc := hP.sub (ws' := [(h0, .inr (4, [.ref t, .ref fi, .ref st, .ref mc])), (t, .inr (3, [.int 0, .ref t1, .ref t2, .ref t3, .ref t4, .ref t5, .ref t6, .ref t7, .ref t8, .ref t9])), (st, .inr (2, [.int 0, .int 0, .long 0, .int 0, .int 0, .ref s5, .ref s6, .ref s7, .ref s8, .ref s9, .ref s10, .ref s11, .ref s12, .ref s13, .ref s14, .ref s15, .ref s16]))]) [0, 1, 2] rfl
  refine pn_ci (va_runV (As := [.int 1]) (rest := [.long 7304561]) ⟨hx, hb, hml, hown, hts⟩ (c_X4_many_ok l D cI cZ cJ cG H.size h0 t fi st mc t1 t2 t3 t4 t5 t6 t7 t8 t9 s5 s6 s7 s8 s9 s10 s11 s12 s13 s14 s15 s16 1 (by decide)) (cwV 1 hts (pl_V (pl_m 849 (by decide +kernel)) (pl_m 715 (by decide +kernel)) (pl_m 716 (by decide +kernel)) (pl_m 2 (by decide +kernel)) (pl_m 717 (by decide +kernel))) rfl rfl rfl (by decide +kernel) ⟨(Nat.le_of_ble_eq_true rfl), (Nat.le_of_ble_eq_true rfl)⟩) ⟨pn_B_blind, va_recv hK hPc (ci := 4) (q0 := 0) rfl rfl, (pn_B_at hPc hK)⟩ rfl rfl hl.1 rfl (lv_room (Nat.le_of_ble_eq_true rfl)) dX4_digest_19 ⟨(Nat.le_of_ble_eq_true rfl), (Nat.le_of_ble_eq_true rfl)⟩) hS hA hP (fun r_5 H locs hw hP hS => ?_)
  have hP : va_P D vwCl [(h0, .inr (4, [.ref t, .ref fi, .ref st, .ref mc])), (t, .inr (3, [.int 0, .ref t1, .ref t2, .ref t3, .ref t4, .ref t5, .ref t6, .ref t7, .ref t8, .ref t9])), (st, .inr (2, [.int 0, .int 0, .long 0, .int 0, .int 0, .ref s5, .ref s6, .ref s7, .ref s8, .ref s9, .ref s10, .ref s11, .ref s12, .ref s13, .ref s14, .ref s15, .ref s16]))] H := hP
  obtain ⟨rfl, hw⟩ := hw
  try simp only [Int32.reduceToInt] at hw
  refine lv_i2l (v := 0) hx hb dX4_digest_22 (by decide +kernel) ?_
  refine lv_ladd hx hb dX4_digest_23 ?_
  refine lv_topl (fun f_6 ef_6 => ?_)
  have ef_6 : f_6 = 7304561 := by rw [ef_6]; decide +kernel
  subst ef_6
  refine lv_lstore_n (lv' := [(1, .long 7304561), (3, .int 1), (0, .ref h0)]) hx hb dX4_digest_24 rfl hl (by decide) rfl (fun ls hl => ?_)
  refine lv_iinc (v := 2) (lv' := [(3, .int 2), (1, .long 7304561), (0, .ref h0)]) hx hb dX4_digest_25 hl (k := 1) rfl (by decide) (by decide) rfl (fun ls hl => ?_)
  refine lv_goto (tgt := 6) hx hb dX4_digest_28 (by decide) ?_
  refine lv_iload_n hx hb dX4_digest_6 rfl (lv_at hl 0 rfl) ?_
  refine lv_bipush (v := 13) hx hb dX4_digest_7 (by decide) ?_
  refine lv_icmp_gt (tgt := 31) hx hb dX4_digest_9 (by decide) (fun h9 => absurd h9 (by decide)) (fun _ => ?_)
  refine lv_lload_n hx hb dX4_digest_12 rfl (lv_at hl 1 rfl) ?_
  refine lv_ldc2 hx hb hown (hts (.constantLong RX4 245 (31)) (pl_m 848 (by decide +kernel))) dX4_digest_13 ?_
  refine lv_lmul hx hb dX4_digest_16 ?_
  refine lv_topl (fun f_7 ef_7 => ?_)
  have ef_7 : f_7 = 226441391 := by rw [ef_7]; decide +kernel
  subst ef_7
  refine lv_aload_n hx hb dX4_digest_17 rfl (lv_at hl 2 rfl) ?_
  refine lv_iload_n hx hb dX4_digest_18 rfl (lv_at hl 0 rfl) ?_
  have hPc := hP.sub (ws' := [(h0, .inr (4, [.ref t, .ref fi, .ref st, .ref mc])), (t, .inr (3, [.int 0, .ref t1, .ref t2, .ref t3, .ref t4, .ref t5, .ref t6, .ref t7, .ref t8, .ref t9])), (st, .inr (2, [.int 0, .int 0, .long 0, .int 0, .int 0, .ref s5, .ref s6, .ref s7, .ref s8, .ref s9, .ref s10, .ref s11, .ref s12, .ref s13, .ref s14, .ref s15, .ref s16]))]) [0, 1, 2] rfl
  refine pn_ci (va_runV (As := [.int 2]) (rest := [.long 226441391]) ⟨hx, hb, hml, hown, hts⟩ (c_X4_many_ok l D cI cZ cJ cG H.size h0 t fi st mc t1 t2 t3 t4 t5 t6 t7 t8 t9 s5 s6 s7 s8 s9 s10 s11 s12 s13 s14 s15 s16 2 (by decide)) (cwV 1 hts (pl_V (pl_m 849 (by decide +kernel)) (pl_m 715 (by decide +kernel)) (pl_m 716 (by decide +kernel)) (pl_m 2 (by decide +kernel)) (pl_m 717 (by decide +kernel))) rfl rfl rfl (by decide +kernel) ⟨(Nat.le_of_ble_eq_true rfl), (Nat.le_of_ble_eq_true rfl)⟩) ⟨pn_B_blind, va_recv hK hPc (ci := 4) (q0 := 0) rfl rfl, (pn_B_at hPc hK)⟩ rfl rfl hl.1 rfl (lv_room (Nat.le_of_ble_eq_true rfl)) dX4_digest_19 ⟨(Nat.le_of_ble_eq_true rfl), (Nat.le_of_ble_eq_true rfl)⟩) hS hA hP (fun r_8 H locs hw hP hS => ?_)
  have hP : va_P D vwCl [(h0, .inr (4, [.ref t, .ref fi, .ref st, .ref mc])), (t, .inr (3, [.int 0, .ref t1, .ref t2, .ref t3, .ref t4, .ref t5, .ref t6, .ref t7, .ref t8, .ref t9])), (st, .inr (2, [.int 0, .int 0, .long 0, .int 0, .int 0, .ref s5, .ref s6, .ref s7, .ref s8, .ref s9, .ref s10, .ref s11, .ref s12, .ref s13, .ref s14, .ref s15, .ref s16]))] H := hP
  obtain ⟨rfl, hw⟩ := hw
  try simp only [Int32.reduceToInt] at hw
  refine lv_i2l (v := 0) hx hb dX4_digest_22 (by decide +kernel) ?_
  refine lv_ladd hx hb dX4_digest_23 ?_
  refine lv_topl (fun f_9 ef_9 => ?_)
  have ef_9 : f_9 = 226441391 := by rw [ef_9]; decide +kernel
  subst ef_9
  refine lv_lstore_n (lv' := [(1, .long 226441391), (3, .int 2), (0, .ref h0)]) hx hb dX4_digest_24 rfl hl (by decide) rfl (fun ls hl => ?_)
  refine lv_iinc (v := 3) (lv' := [(3, .int 3), (1, .long 226441391), (0, .ref h0)]) hx hb dX4_digest_25 hl (k := 1) rfl (by decide) (by decide) rfl (fun ls hl => ?_)
  refine lv_goto (tgt := 6) hx hb dX4_digest_28 (by decide) ?_
  refine lv_iload_n hx hb dX4_digest_6 rfl (lv_at hl 0 rfl) ?_
  refine lv_bipush (v := 13) hx hb dX4_digest_7 (by decide) ?_
  refine lv_icmp_gt (tgt := 31) hx hb dX4_digest_9 (by decide) (fun h9 => absurd h9 (by decide)) (fun _ => ?_)
  refine lv_lload_n hx hb dX4_digest_12 rfl (lv_at hl 1 rfl) ?_
  refine lv_ldc2 hx hb hown (hts (.constantLong RX4 245 (31)) (pl_m 848 (by decide +kernel))) dX4_digest_13 ?_
  refine lv_lmul hx hb dX4_digest_16 ?_
  refine lv_topl (fun f_10 ef_10 => ?_)
  have ef_10 : f_10 = 7019683121 := by rw [ef_10]; decide +kernel
  subst ef_10
  refine lv_aload_n hx hb dX4_digest_17 rfl (lv_at hl 2 rfl) ?_
  refine lv_iload_n hx hb dX4_digest_18 rfl (lv_at hl 0 rfl) ?_
  have hPc := hP.sub (ws' := [(h0, .inr (4, [.ref t, .ref fi, .ref st, .ref mc])), (t, .inr (3, [.int 0, .ref t1, .ref t2, .ref t3, .ref t4, .ref t5, .ref t6, .ref t7, .ref t8, .ref t9])), (st, .inr (2, [.int 0, .int 0, .long 0, .int 0, .int 0, .ref s5, .ref s6, .ref s7, .ref s8, .ref s9, .ref s10, .ref s11, .ref s12, .ref s13, .ref s14, .ref s15, .ref s16]))]) [0, 1, 2] rfl
  refine pn_ci (va_runV (As := [.int 3]) (rest := [.long 7019683121]) ⟨hx, hb, hml, hown, hts⟩ (c_X4_many_ok l D cI cZ cJ cG H.size h0 t fi st mc t1 t2 t3 t4 t5 t6 t7 t8 t9 s5 s6 s7 s8 s9 s10 s11 s12 s13 s14 s15 s16 3 (by decide)) (cwV 1 hts (pl_V (pl_m 849 (by decide +kernel)) (pl_m 715 (by decide +kernel)) (pl_m 716 (by decide +kernel)) (pl_m 2 (by decide +kernel)) (pl_m 717 (by decide +kernel))) rfl rfl rfl (by decide +kernel) ⟨(Nat.le_of_ble_eq_true rfl), (Nat.le_of_ble_eq_true rfl)⟩) ⟨pn_B_blind, va_recv hK hPc (ci := 4) (q0 := 0) rfl rfl, (pn_B_at hPc hK)⟩ rfl rfl hl.1 rfl (lv_room (Nat.le_of_ble_eq_true rfl)) dX4_digest_19 ⟨(Nat.le_of_ble_eq_true rfl), (Nat.le_of_ble_eq_true rfl)⟩) hS hA hP (fun r_11 H locs hw hP hS => ?_)
  have hP : va_P D vwCl [(h0, .inr (4, [.ref t, .ref fi, .ref st, .ref mc])), (t, .inr (3, [.int 0, .ref t1, .ref t2, .ref t3, .ref t4, .ref t5, .ref t6, .ref t7, .ref t8, .ref t9])), (st, .inr (2, [.int 0, .int 0, .long 0, .int 0, .int 0, .ref s5, .ref s6, .ref s7, .ref s8, .ref s9, .ref s10, .ref s11, .ref s12, .ref s13, .ref s14, .ref s15, .ref s16]))] H := hP
  obtain ⟨rfl, hw⟩ := hw
  try simp only [Int32.reduceToInt] at hw
  refine lv_i2l (v := 0) hx hb dX4_digest_22 (by decide +kernel) ?_
  refine lv_ladd hx hb dX4_digest_23 ?_
  refine lv_topl (fun f_12 ef_12 => ?_)
  have ef_12 : f_12 = 7019683121 := by rw [ef_12]; decide +kernel
  subst ef_12
  refine lv_lstore_n (lv' := [(1, .long 7019683121), (3, .int 3), (0, .ref h0)]) hx hb dX4_digest_24 rfl hl (by decide) rfl (fun ls hl => ?_)
  refine lv_iinc (v := 4) (lv' := [(3, .int 4), (1, .long 7019683121), (0, .ref h0)]) hx hb dX4_digest_25 hl (k := 1) rfl (by decide) (by decide) rfl (fun ls hl => ?_)
  refine lv_goto (tgt := 6) hx hb dX4_digest_28 (by decide) ?_
  refine lv_iload_n hx hb dX4_digest_6 rfl (lv_at hl 0 rfl) ?_
  refine lv_bipush (v := 13) hx hb dX4_digest_7 (by decide) ?_
  refine lv_icmp_gt (tgt := 31) hx hb dX4_digest_9 (by decide) (fun h9 => absurd h9 (by decide)) (fun _ => ?_)
  refine lv_lload_n hx hb dX4_digest_12 rfl (lv_at hl 1 rfl) ?_
  refine lv_ldc2 hx hb hown (hts (.constantLong RX4 245 (31)) (pl_m 848 (by decide +kernel))) dX4_digest_13 ?_
  refine lv_lmul hx hb dX4_digest_16 ?_
  refine lv_topl (fun f_13 ef_13 => ?_)
  have ef_13 : f_13 = 217610176751 := by rw [ef_13]; decide +kernel
  subst ef_13
  refine lv_aload_n hx hb dX4_digest_17 rfl (lv_at hl 2 rfl) ?_
  refine lv_iload_n hx hb dX4_digest_18 rfl (lv_at hl 0 rfl) ?_
  have hPc := hP.sub (ws' := [(h0, .inr (4, [.ref t, .ref fi, .ref st, .ref mc])), (t, .inr (3, [.int 0, .ref t1, .ref t2, .ref t3, .ref t4, .ref t5, .ref t6, .ref t7, .ref t8, .ref t9])), (st, .inr (2, [.int 0, .int 0, .long 0, .int 0, .int 0, .ref s5, .ref s6, .ref s7, .ref s8, .ref s9, .ref s10, .ref s11, .ref s12, .ref s13, .ref s14, .ref s15, .ref s16]))]) [0, 1, 2] rfl
  refine pn_ci (va_runV (As := [.int 4]) (rest := [.long 217610176751]) ⟨hx, hb, hml, hown, hts⟩ (c_X4_many_ok l D cI cZ cJ cG H.size h0 t fi st mc t1 t2 t3 t4 t5 t6 t7 t8 t9 s5 s6 s7 s8 s9 s10 s11 s12 s13 s14 s15 s16 4 (by decide)) (cwV 1 hts (pl_V (pl_m 849 (by decide +kernel)) (pl_m 715 (by decide +kernel)) (pl_m 716 (by decide +kernel)) (pl_m 2 (by decide +kernel)) (pl_m 717 (by decide +kernel))) rfl rfl rfl (by decide +kernel) ⟨(Nat.le_of_ble_eq_true rfl), (Nat.le_of_ble_eq_true rfl)⟩) ⟨pn_B_blind, va_recv hK hPc (ci := 4) (q0 := 0) rfl rfl, (pn_B_at hPc hK)⟩ rfl rfl hl.1 rfl (lv_room (Nat.le_of_ble_eq_true rfl)) dX4_digest_19 ⟨(Nat.le_of_ble_eq_true rfl), (Nat.le_of_ble_eq_true rfl)⟩) hS hA hP (fun r_14 H locs hw hP hS => ?_)
  have hP : va_P D vwCl [(h0, .inr (4, [.ref t, .ref fi, .ref st, .ref mc])), (t, .inr (3, [.int 0, .ref t1, .ref t2, .ref t3, .ref t4, .ref t5, .ref t6, .ref t7, .ref t8, .ref t9])), (st, .inr (2, [.int 0, .int 0, .long 0, .int 0, .int 0, .ref s5, .ref s6, .ref s7, .ref s8, .ref s9, .ref s10, .ref s11, .ref s12, .ref s13, .ref s14, .ref s15, .ref s16]))] H := hP
  obtain ⟨rfl, hw⟩ := hw
  try simp only [Int32.reduceToInt] at hw
  refine lv_i2l (v := 0) hx hb dX4_digest_22 (by decide +kernel) ?_
  refine lv_ladd hx hb dX4_digest_23 ?_
  refine lv_topl (fun f_15 ef_15 => ?_)
  have ef_15 : f_15 = 217610176751 := by rw [ef_15]; decide +kernel
  subst ef_15
  refine lv_lstore_n (lv' := [(1, .long 217610176751), (3, .int 4), (0, .ref h0)]) hx hb dX4_digest_24 rfl hl (by decide) rfl (fun ls hl => ?_)
  refine lv_iinc (v := 5) (lv' := [(3, .int 5), (1, .long 217610176751), (0, .ref h0)]) hx hb dX4_digest_25 hl (k := 1) rfl (by decide) (by decide) rfl (fun ls hl => ?_)
  refine lv_goto (tgt := 6) hx hb dX4_digest_28 (by decide) ?_
  refine lv_iload_n hx hb dX4_digest_6 rfl (lv_at hl 0 rfl) ?_
  refine lv_bipush (v := 13) hx hb dX4_digest_7 (by decide) ?_
  refine lv_icmp_gt (tgt := 31) hx hb dX4_digest_9 (by decide) (fun h9 => absurd h9 (by decide)) (fun _ => ?_)
  refine lv_lload_n hx hb dX4_digest_12 rfl (lv_at hl 1 rfl) ?_
  refine lv_ldc2 hx hb hown (hts (.constantLong RX4 245 (31)) (pl_m 848 (by decide +kernel))) dX4_digest_13 ?_
  refine lv_lmul hx hb dX4_digest_16 ?_
  refine lv_topl (fun f_16 ef_16 => ?_)
  have ef_16 : f_16 = 6745915479281 := by rw [ef_16]; decide +kernel
  subst ef_16
  refine lv_aload_n hx hb dX4_digest_17 rfl (lv_at hl 2 rfl) ?_
  refine lv_iload_n hx hb dX4_digest_18 rfl (lv_at hl 0 rfl) ?_
  have hPc := hP.sub (ws' := [(h0, .inr (4, [.ref t, .ref fi, .ref st, .ref mc])), (t, .inr (3, [.int 0, .ref t1, .ref t2, .ref t3, .ref t4, .ref t5, .ref t6, .ref t7, .ref t8, .ref t9])), (st, .inr (2, [.int 0, .int 0, .long 0, .int 0, .int 0, .ref s5, .ref s6, .ref s7, .ref s8, .ref s9, .ref s10, .ref s11, .ref s12, .ref s13, .ref s14, .ref s15, .ref s16]))]) [0, 1, 2] rfl
  refine pn_ci (va_runV (As := [.int 5]) (rest := [.long 6745915479281]) ⟨hx, hb, hml, hown, hts⟩ (c_X4_many_ok l D cI cZ cJ cG H.size h0 t fi st mc t1 t2 t3 t4 t5 t6 t7 t8 t9 s5 s6 s7 s8 s9 s10 s11 s12 s13 s14 s15 s16 5 (by decide)) (cwV 1 hts (pl_V (pl_m 849 (by decide +kernel)) (pl_m 715 (by decide +kernel)) (pl_m 716 (by decide +kernel)) (pl_m 2 (by decide +kernel)) (pl_m 717 (by decide +kernel))) rfl rfl rfl (by decide +kernel) ⟨(Nat.le_of_ble_eq_true rfl), (Nat.le_of_ble_eq_true rfl)⟩) ⟨pn_B_blind, va_recv hK hPc (ci := 4) (q0 := 0) rfl rfl, (pn_B_at hPc hK)⟩ rfl rfl hl.1 rfl (lv_room (Nat.le_of_ble_eq_true rfl)) dX4_digest_19 ⟨(Nat.le_of_ble_eq_true rfl), (Nat.le_of_ble_eq_true rfl)⟩) hS hA hP (fun r_17 H locs hw hP hS => ?_)
  have hP : va_P D vwCl [(h0, .inr (4, [.ref t, .ref fi, .ref st, .ref mc])), (t, .inr (3, [.int 0, .ref t1, .ref t2, .ref t3, .ref t4, .ref t5, .ref t6, .ref t7, .ref t8, .ref t9])), (st, .inr (2, [.int 0, .int 0, .long 0, .int 0, .int 0, .ref s5, .ref s6, .ref s7, .ref s8, .ref s9, .ref s10, .ref s11, .ref s12, .ref s13, .ref s14, .ref s15, .ref s16]))] H := hP
  obtain ⟨rfl, hw⟩ := hw
  try simp only [Int32.reduceToInt] at hw
  refine lv_i2l (v := 0) hx hb dX4_digest_22 (by decide +kernel) ?_
  refine lv_ladd hx hb dX4_digest_23 ?_
  refine lv_topl (fun f_18 ef_18 => ?_)
  have ef_18 : f_18 = 6745915479281 := by rw [ef_18]; decide +kernel
  subst ef_18
  refine lv_lstore_n (lv' := [(1, .long 6745915479281), (3, .int 5), (0, .ref h0)]) hx hb dX4_digest_24 rfl hl (by decide) rfl (fun ls hl => ?_)
  refine lv_iinc (v := 6) (lv' := [(3, .int 6), (1, .long 6745915479281), (0, .ref h0)]) hx hb dX4_digest_25 hl (k := 1) rfl (by decide) (by decide) rfl (fun ls hl => ?_)
  refine lv_goto (tgt := 6) hx hb dX4_digest_28 (by decide) ?_
  refine lv_iload_n hx hb dX4_digest_6 rfl (lv_at hl 0 rfl) ?_
  refine lv_bipush (v := 13) hx hb dX4_digest_7 (by decide) ?_
  refine lv_icmp_gt (tgt := 31) hx hb dX4_digest_9 (by decide) (fun h9 => absurd h9 (by decide)) (fun _ => ?_)
  refine lv_lload_n hx hb dX4_digest_12 rfl (lv_at hl 1 rfl) ?_
  refine lv_ldc2 hx hb hown (hts (.constantLong RX4 245 (31)) (pl_m 848 (by decide +kernel))) dX4_digest_13 ?_
  refine lv_lmul hx hb dX4_digest_16 ?_
  refine lv_topl (fun f_19 ef_19 => ?_)
  have ef_19 : f_19 = 209123379857711 := by rw [ef_19]; decide +kernel
  subst ef_19
  refine lv_aload_n hx hb dX4_digest_17 rfl (lv_at hl 2 rfl) ?_
  refine lv_iload_n hx hb dX4_digest_18 rfl (lv_at hl 0 rfl) ?_
  have hPc := hP.sub (ws' := [(h0, .inr (4, [.ref t, .ref fi, .ref st, .ref mc])), (t, .inr (3, [.int 0, .ref t1, .ref t2, .ref t3, .ref t4, .ref t5, .ref t6, .ref t7, .ref t8, .ref t9])), (st, .inr (2, [.int 0, .int 0, .long 0, .int 0, .int 0, .ref s5, .ref s6, .ref s7, .ref s8, .ref s9, .ref s10, .ref s11, .ref s12, .ref s13, .ref s14, .ref s15, .ref s16]))]) [0, 1, 2] rfl
  refine pn_ci (va_runV (As := [.int 6]) (rest := [.long 209123379857711]) ⟨hx, hb, hml, hown, hts⟩ (c_X4_many_ok l D cI cZ cJ cG H.size h0 t fi st mc t1 t2 t3 t4 t5 t6 t7 t8 t9 s5 s6 s7 s8 s9 s10 s11 s12 s13 s14 s15 s16 6 (by decide)) (cwV 1 hts (pl_V (pl_m 849 (by decide +kernel)) (pl_m 715 (by decide +kernel)) (pl_m 716 (by decide +kernel)) (pl_m 2 (by decide +kernel)) (pl_m 717 (by decide +kernel))) rfl rfl rfl (by decide +kernel) ⟨(Nat.le_of_ble_eq_true rfl), (Nat.le_of_ble_eq_true rfl)⟩) ⟨pn_B_blind, va_recv hK hPc (ci := 4) (q0 := 0) rfl rfl, (pn_B_at hPc hK)⟩ rfl rfl hl.1 rfl (lv_room (Nat.le_of_ble_eq_true rfl)) dX4_digest_19 ⟨(Nat.le_of_ble_eq_true rfl), (Nat.le_of_ble_eq_true rfl)⟩) hS hA hP (fun r_20 H locs hw hP hS => ?_)
  have hP : va_P D vwCl [(h0, .inr (4, [.ref t, .ref fi, .ref st, .ref mc])), (t, .inr (3, [.int 0, .ref t1, .ref t2, .ref t3, .ref t4, .ref t5, .ref t6, .ref t7, .ref t8, .ref t9])), (st, .inr (2, [.int 0, .int 0, .long 0, .int 0, .int 0, .ref s5, .ref s6, .ref s7, .ref s8, .ref s9, .ref s10, .ref s11, .ref s12, .ref s13, .ref s14, .ref s15, .ref s16]))] H := hP
  obtain ⟨rfl, hw⟩ := hw
  try simp only [Int32.reduceToInt] at hw
  refine lv_i2l (v := 0) hx hb dX4_digest_22 (by decide +kernel) ?_
  refine lv_ladd hx hb dX4_digest_23 ?_
  refine lv_topl (fun f_21 ef_21 => ?_)
  have ef_21 : f_21 = 209123379857711 := by rw [ef_21]; decide +kernel
  subst ef_21
  refine lv_lstore_n (lv' := [(1, .long 209123379857711), (3, .int 6), (0, .ref h0)]) hx hb dX4_digest_24 rfl hl (by decide) rfl (fun ls hl => ?_)
  refine lv_iinc (v := 7) (lv' := [(3, .int 7), (1, .long 209123379857711), (0, .ref h0)]) hx hb dX4_digest_25 hl (k := 1) rfl (by decide) (by decide) rfl (fun ls hl => ?_)
  refine lv_goto (tgt := 6) hx hb dX4_digest_28 (by decide) ?_
  refine lv_iload_n hx hb dX4_digest_6 rfl (lv_at hl 0 rfl) ?_
  refine lv_bipush (v := 13) hx hb dX4_digest_7 (by decide) ?_
  refine lv_icmp_gt (tgt := 31) hx hb dX4_digest_9 (by decide) (fun h9 => absurd h9 (by decide)) (fun _ => ?_)
  refine lv_lload_n hx hb dX4_digest_12 rfl (lv_at hl 1 rfl) ?_
  refine lv_ldc2 hx hb hown (hts (.constantLong RX4 245 (31)) (pl_m 848 (by decide +kernel))) dX4_digest_13 ?_
  refine lv_lmul hx hb dX4_digest_16 ?_
  refine lv_topl (fun f_22 ef_22 => ?_)
  have ef_22 : f_22 = 6482824775589041 := by rw [ef_22]; decide +kernel
  subst ef_22
  refine lv_aload_n hx hb dX4_digest_17 rfl (lv_at hl 2 rfl) ?_
  refine lv_iload_n hx hb dX4_digest_18 rfl (lv_at hl 0 rfl) ?_
  have hPc := hP.sub (ws' := [(h0, .inr (4, [.ref t, .ref fi, .ref st, .ref mc])), (t, .inr (3, [.int 0, .ref t1, .ref t2, .ref t3, .ref t4, .ref t5, .ref t6, .ref t7, .ref t8, .ref t9])), (st, .inr (2, [.int 0, .int 0, .long 0, .int 0, .int 0, .ref s5, .ref s6, .ref s7, .ref s8, .ref s9, .ref s10, .ref s11, .ref s12, .ref s13, .ref s14, .ref s15, .ref s16]))]) [0, 1, 2] rfl
  refine pn_ci (va_runV (As := [.int 7]) (rest := [.long 6482824775589041]) ⟨hx, hb, hml, hown, hts⟩ (c_X4_many_ok l D cI cZ cJ cG H.size h0 t fi st mc t1 t2 t3 t4 t5 t6 t7 t8 t9 s5 s6 s7 s8 s9 s10 s11 s12 s13 s14 s15 s16 7 (by decide)) (cwV 1 hts (pl_V (pl_m 849 (by decide +kernel)) (pl_m 715 (by decide +kernel)) (pl_m 716 (by decide +kernel)) (pl_m 2 (by decide +kernel)) (pl_m 717 (by decide +kernel))) rfl rfl rfl (by decide +kernel) ⟨(Nat.le_of_ble_eq_true rfl), (Nat.le_of_ble_eq_true rfl)⟩) ⟨pn_B_blind, va_recv hK hPc (ci := 4) (q0 := 0) rfl rfl, (pn_B_at hPc hK)⟩ rfl rfl hl.1 rfl (lv_room (Nat.le_of_ble_eq_true rfl)) dX4_digest_19 ⟨(Nat.le_of_ble_eq_true rfl), (Nat.le_of_ble_eq_true rfl)⟩) hS hA hP (fun r_23 H locs hw hP hS => ?_)
  have hP : va_P D vwCl [(h0, .inr (4, [.ref t, .ref fi, .ref st, .ref mc])), (t, .inr (3, [.int 0, .ref t1, .ref t2, .ref t3, .ref t4, .ref t5, .ref t6, .ref t7, .ref t8, .ref t9])), (st, .inr (2, [.int 0, .int 0, .long 0, .int 0, .int 0, .ref s5, .ref s6, .ref s7, .ref s8, .ref s9, .ref s10, .ref s11, .ref s12, .ref s13, .ref s14, .ref s15, .ref s16]))] H := hP
  obtain ⟨rfl, hw⟩ := hw
  try simp only [Int32.reduceToInt] at hw
  refine lv_i2l (v := 0) hx hb dX4_digest_22 (by decide +kernel) ?_
  refine lv_ladd hx hb dX4_digest_23 ?_
  refine lv_topl (fun f_24 ef_24 => ?_)
  have ef_24 : f_24 = 6482824775589041 := by rw [ef_24]; decide +kernel
  subst ef_24
  refine lv_lstore_n (lv' := [(1, .long 6482824775589041), (3, .int 7), (0, .ref h0)]) hx hb dX4_digest_24 rfl hl (by decide) rfl (fun ls hl => ?_)
  refine lv_iinc (v := 8) (lv' := [(3, .int 8), (1, .long 6482824775589041), (0, .ref h0)]) hx hb dX4_digest_25 hl (k := 1) rfl (by decide) (by decide) rfl (fun ls hl => ?_)
  refine lv_goto (tgt := 6) hx hb dX4_digest_28 (by decide) ?_
  refine lv_iload_n hx hb dX4_digest_6 rfl (lv_at hl 0 rfl) ?_
  refine lv_bipush (v := 13) hx hb dX4_digest_7 (by decide) ?_
  refine lv_icmp_gt (tgt := 31) hx hb dX4_digest_9 (by decide) (fun h9 => absurd h9 (by decide)) (fun _ => ?_)
  refine lv_lload_n hx hb dX4_digest_12 rfl (lv_at hl 1 rfl) ?_
  refine lv_ldc2 hx hb hown (hts (.constantLong RX4 245 (31)) (pl_m 848 (by decide +kernel))) dX4_digest_13 ?_
  refine lv_lmul hx hb dX4_digest_16 ?_
  refine lv_topl (fun f_25 ef_25 => ?_)
  have ef_25 : f_25 = 200967568043260271 := by rw [ef_25]; decide +kernel
  subst ef_25
  refine lv_aload_n hx hb dX4_digest_17 rfl (lv_at hl 2 rfl) ?_
  refine lv_iload_n hx hb dX4_digest_18 rfl (lv_at hl 0 rfl) ?_
  have hPc := hP.sub (ws' := [(h0, .inr (4, [.ref t, .ref fi, .ref st, .ref mc])), (t, .inr (3, [.int 0, .ref t1, .ref t2, .ref t3, .ref t4, .ref t5, .ref t6, .ref t7, .ref t8, .ref t9])), (st, .inr (2, [.int 0, .int 0, .long 0, .int 0, .int 0, .ref s5, .ref s6, .ref s7, .ref s8, .ref s9, .ref s10, .ref s11, .ref s12, .ref s13, .ref s14, .ref s15, .ref s16]))]) [0, 1, 2] rfl
  refine pn_ci (va_runV (As := [.int 8]) (rest := [.long 200967568043260271]) ⟨hx, hb, hml, hown, hts⟩ (c_X4_many_ok l D cI cZ cJ cG H.size h0 t fi st mc t1 t2 t3 t4 t5 t6 t7 t8 t9 s5 s6 s7 s8 s9 s10 s11 s12 s13 s14 s15 s16 8 (by decide)) (cwV 1 hts (pl_V (pl_m 849 (by decide +kernel)) (pl_m 715 (by decide +kernel)) (pl_m 716 (by decide +kernel)) (pl_m 2 (by decide +kernel)) (pl_m 717 (by decide +kernel))) rfl rfl rfl (by decide +kernel) ⟨(Nat.le_of_ble_eq_true rfl), (Nat.le_of_ble_eq_true rfl)⟩) ⟨pn_B_blind, va_recv hK hPc (ci := 4) (q0 := 0) rfl rfl, (pn_B_at hPc hK)⟩ rfl rfl hl.1 rfl (lv_room (Nat.le_of_ble_eq_true rfl)) dX4_digest_19 ⟨(Nat.le_of_ble_eq_true rfl), (Nat.le_of_ble_eq_true rfl)⟩) hS hA hP (fun r_26 H locs hw hP hS => ?_)
  have hP : va_P D vwCl [(h0, .inr (4, [.ref t, .ref fi, .ref st, .ref mc])), (t, .inr (3, [.int 0, .ref t1, .ref t2, .ref t3, .ref t4, .ref t5, .ref t6, .ref t7, .ref t8, .ref t9])), (st, .inr (2, [.int 0, .int 0, .long 0, .int 0, .int 0, .ref s5, .ref s6, .ref s7, .ref s8, .ref s9, .ref s10, .ref s11, .ref s12, .ref s13, .ref s14, .ref s15, .ref s16]))] H := hP
  obtain ⟨rfl, hw⟩ := hw
  try simp only [Int32.reduceToInt] at hw
  refine lv_i2l (v := 0) hx hb dX4_digest_22 (by decide +kernel) ?_
  refine lv_ladd hx hb dX4_digest_23 ?_
  refine lv_topl (fun f_27 ef_27 => ?_)
  have ef_27 : f_27 = 200967568043260271 := by rw [ef_27]; decide +kernel
  subst ef_27
  refine lv_lstore_n (lv' := [(1, .long 200967568043260271), (3, .int 8), (0, .ref h0)]) hx hb dX4_digest_24 rfl hl (by decide) rfl (fun ls hl => ?_)
  refine lv_iinc (v := 9) (lv' := [(3, .int 9), (1, .long 200967568043260271), (0, .ref h0)]) hx hb dX4_digest_25 hl (k := 1) rfl (by decide) (by decide) rfl (fun ls hl => ?_)
  refine lv_goto (tgt := 6) hx hb dX4_digest_28 (by decide) ?_
  refine lv_iload_n hx hb dX4_digest_6 rfl (lv_at hl 0 rfl) ?_
  refine lv_bipush (v := 13) hx hb dX4_digest_7 (by decide) ?_
  refine lv_icmp_gt (tgt := 31) hx hb dX4_digest_9 (by decide) (fun h9 => absurd h9 (by decide)) (fun _ => ?_)
  refine lv_lload_n hx hb dX4_digest_12 rfl (lv_at hl 1 rfl) ?_
  refine lv_ldc2 hx hb hown (hts (.constantLong RX4 245 (31)) (pl_m 848 (by decide +kernel))) dX4_digest_13 ?_
  refine lv_lmul hx hb dX4_digest_16 ?_
  refine lv_topl (fun f_28 ef_28 => ?_)
  have ef_28 : f_28 = 6229994609341068401 := by rw [ef_28]; decide +kernel
  subst ef_28
  refine lv_aload_n hx hb dX4_digest_17 rfl (lv_at hl 2 rfl) ?_
  refine lv_iload_n hx hb dX4_digest_18 rfl (lv_at hl 0 rfl) ?_
  have hPc := hP.sub (ws' := [(h0, .inr (4, [.ref t, .ref fi, .ref st, .ref mc])), (t, .inr (3, [.int 0, .ref t1, .ref t2, .ref t3, .ref t4, .ref t5, .ref t6, .ref t7, .ref t8, .ref t9])), (st, .inr (2, [.int 0, .int 0, .long 0, .int 0, .int 0, .ref s5, .ref s6, .ref s7, .ref s8, .ref s9, .ref s10, .ref s11, .ref s12, .ref s13, .ref s14, .ref s15, .ref s16]))]) [0, 1, 2] rfl
  refine pn_ci (va_runV (As := [.int 9]) (rest := [.long 6229994609341068401]) ⟨hx, hb, hml, hown, hts⟩ (c_X4_many_ok l D cI cZ cJ cG H.size h0 t fi st mc t1 t2 t3 t4 t5 t6 t7 t8 t9 s5 s6 s7 s8 s9 s10 s11 s12 s13 s14 s15 s16 9 (by decide)) (cwV 1 hts (pl_V (pl_m 849 (by decide +kernel)) (pl_m 715 (by decide +kernel)) (pl_m 716 (by decide +kernel)) (pl_m 2 (by decide +kernel)) (pl_m 717 (by decide +kernel))) rfl rfl rfl (by decide +kernel) ⟨(Nat.le_of_ble_eq_true rfl), (Nat.le_of_ble_eq_true rfl)⟩) ⟨pn_B_blind, va_recv hK hPc (ci := 4) (q0 := 0) rfl rfl, (pn_B_at hPc hK)⟩ rfl rfl hl.1 rfl (lv_room (Nat.le_of_ble_eq_true rfl)) dX4_digest_19 ⟨(Nat.le_of_ble_eq_true rfl), (Nat.le_of_ble_eq_true rfl)⟩) hS hA hP (fun r_29 H locs hw hP hS => ?_)
  have hP : va_P D vwCl [(h0, .inr (4, [.ref t, .ref fi, .ref st, .ref mc])), (t, .inr (3, [.int 0, .ref t1, .ref t2, .ref t3, .ref t4, .ref t5, .ref t6, .ref t7, .ref t8, .ref t9])), (st, .inr (2, [.int 0, .int 0, .long 0, .int 0, .int 0, .ref s5, .ref s6, .ref s7, .ref s8, .ref s9, .ref s10, .ref s11, .ref s12, .ref s13, .ref s14, .ref s15, .ref s16]))] H := hP
  obtain ⟨rfl, hw⟩ := hw
  try simp only [Int32.reduceToInt] at hw
  refine lv_i2l (v := 0) hx hb dX4_digest_22 (by decide +kernel) ?_
  refine lv_ladd hx hb dX4_digest_23 ?_
  refine lv_topl (fun f_30 ef_30 => ?_)
  have ef_30 : f_30 = 6229994609341068401 := by rw [ef_30]; decide +kernel
  subst ef_30
  refine lv_lstore_n (lv' := [(1, .long 6229994609341068401), (3, .int 9), (0, .ref h0)]) hx hb dX4_digest_24 rfl hl (by decide) rfl (fun ls hl => ?_)
  refine lv_iinc (v := 10) (lv' := [(3, .int 10), (1, .long 6229994609341068401), (0, .ref h0)]) hx hb dX4_digest_25 hl (k := 1) rfl (by decide) (by decide) rfl (fun ls hl => ?_)
  refine lv_goto (tgt := 6) hx hb dX4_digest_28 (by decide) ?_
  refine lv_iload_n hx hb dX4_digest_6 rfl (lv_at hl 0 rfl) ?_
  refine lv_bipush (v := 13) hx hb dX4_digest_7 (by decide) ?_
  refine lv_icmp_gt (tgt := 31) hx hb dX4_digest_9 (by decide) (fun h9 => absurd h9 (by decide)) (fun _ => ?_)
  refine lv_lload_n hx hb dX4_digest_12 rfl (lv_at hl 1 rfl) ?_
  refine lv_ldc2 hx hb hown (hts (.constantLong RX4 245 (31)) (pl_m 848 (by decide +kernel))) dX4_digest_13 ?_
  refine lv_lmul hx hb dX4_digest_16 ?_
  refine lv_topl (fun f_31 ef_31 => ?_)
  have ef_31 : f_31 = 8662392152477604271 := by rw [ef_31]; decide +kernel
  subst ef_31
  refine lv_aload_n hx hb dX4_digest_17 rfl (lv_at hl 2 rfl) ?_
  refine lv_iload_n hx hb dX4_digest_18 rfl (lv_at hl 0 rfl) ?_
  have hPc := hP.sub (ws' := [(h0, .inr (4, [.ref t, .ref fi, .ref st, .ref mc])), (t, .inr (3, [.int 0, .ref t1, .ref t2, .ref t3, .ref t4, .ref t5, .ref t6, .ref t7, .ref t8, .ref t9])), (st, .inr (2, [.int 0, .int 0, .long 0, .int 0, .int 0, .ref s5, .ref s6, .ref s7, .ref s8, .ref s9, .ref s10, .ref s11, .ref s12, .ref s13, .ref s14, .ref s15, .ref s16]))]) [0, 1, 2] rfl
  refine pn_ci (va_runV (As := [.int 10]) (rest := [.long 8662392152477604271]) ⟨hx, hb, hml, hown, hts⟩ (c_X4_many_ok l D cI cZ cJ cG H.size h0 t fi st mc t1 t2 t3 t4 t5 t6 t7 t8 t9 s5 s6 s7 s8 s9 s10 s11 s12 s13 s14 s15 s16 10 (by decide)) (cwV 1 hts (pl_V (pl_m 849 (by decide +kernel)) (pl_m 715 (by decide +kernel)) (pl_m 716 (by decide +kernel)) (pl_m 2 (by decide +kernel)) (pl_m 717 (by decide +kernel))) rfl rfl rfl (by decide +kernel) ⟨(Nat.le_of_ble_eq_true rfl), (Nat.le_of_ble_eq_true rfl)⟩) ⟨pn_B_blind, va_recv hK hPc (ci := 4) (q0 := 0) rfl rfl, (pn_B_at hPc hK)⟩ rfl rfl hl.1 rfl (lv_room (Nat.le_of_ble_eq_true rfl)) dX4_digest_19 ⟨(Nat.le_of_ble_eq_true rfl), (Nat.le_of_ble_eq_true rfl)⟩) hS hA hP (fun r_32 H locs hw hP hS => ?_)
  have hP : va_P D vwCl [(h0, .inr (4, [.ref t, .ref fi, .ref st, .ref mc])), (t, .inr (3, [.int 0, .ref t1, .ref t2, .ref t3, .ref t4, .ref t5, .ref t6, .ref t7, .ref t8, .ref t9])), (st, .inr (2, [.int 0, .int 0, .long 0, .int 0, .int 0, .ref s5, .ref s6, .ref s7, .ref s8, .ref s9, .ref s10, .ref s11, .ref s12, .ref s13, .ref s14, .ref s15, .ref s16]))] H := hP
  obtain ⟨rfl, hw⟩ := hw
  try simp only [Int32.reduceToInt] at hw
  refine lv_i2l (v := 0) hx hb dX4_digest_22 (by decide +kernel) ?_
  refine lv_ladd hx hb dX4_digest_23 ?_
  refine lv_topl (fun f_33 ef_33 => ?_)
  have ef_33 : f_33 = 8662392152477604271 := by rw [ef_33]; decide +kernel
  subst ef_33
  refine lv_lstore_n (lv' := [(1, .long 8662392152477604271), (3, .int 10), (0, .ref h0)]) hx hb dX4_digest_24 rfl hl (by decide) rfl (fun ls hl => ?_)
  refine lv_iinc (v := 11) (lv' := [(3, .int 11), (1, .long 8662392152477604271), (0, .ref h0)]) hx hb dX4_digest_25 hl (k := 1) rfl (by decide) (by decide) rfl (fun ls hl => ?_)
  refine lv_goto (tgt := 6) hx hb dX4_digest_28 (by decide) ?_
  refine lv_iload_n hx hb dX4_digest_6 rfl (lv_at hl 0 rfl) ?_
  refine lv_bipush (v := 13) hx hb dX4_digest_7 (by decide) ?_
  refine lv_icmp_gt (tgt := 31) hx hb dX4_digest_9 (by decide) (fun h9 => absurd h9 (by decide)) (fun _ => ?_)
  refine lv_lload_n hx hb dX4_digest_12 rfl (lv_at hl 1 rfl) ?_
  refine lv_ldc2 hx hb hown (hts (.constantLong RX4 245 (31)) (pl_m 848 (by decide +kernel))) dX4_digest_13 ?_
  refine lv_lmul hx hb dX4_digest_16 ?_
  refine lv_topl (fun f_34 ef_34 => ?_)
  have ef_34 : f_34 = (-8167004378837541839) := by rw [ef_34]; decide +kernel
  subst ef_34
  refine lv_aload_n hx hb dX4_digest_17 rfl (lv_at hl 2 rfl) ?_
  refine lv_iload_n hx hb dX4_digest_18 rfl (lv_at hl 0 rfl) ?_
  have hPc := hP.sub (ws' := [(h0, .inr (4, [.ref t, .ref fi, .ref st, .ref mc])), (t, .inr (3, [.int 0, .ref t1, .ref t2, .ref t3, .ref t4, .ref t5, .ref t6, .ref t7, .ref t8, .ref t9])), (st, .inr (2, [.int 0, .int 0, .long 0, .int 0, .int 0, .ref s5, .ref s6, .ref s7, .ref s8, .ref s9, .ref s10, .ref s11, .ref s12, .ref s13, .ref s14, .ref s15, .ref s16]))]) [0, 1, 2] rfl
  refine pn_ci (va_runV (As := [.int 11]) (rest := [.long (-8167004378837541839)]) ⟨hx, hb, hml, hown, hts⟩ (c_X4_many_ok l D cI cZ cJ cG H.size h0 t fi st mc t1 t2 t3 t4 t5 t6 t7 t8 t9 s5 s6 s7 s8 s9 s10 s11 s12 s13 s14 s15 s16 11 (by decide)) (cwV 1 hts (pl_V (pl_m 849 (by decide +kernel)) (pl_m 715 (by decide +kernel)) (pl_m 716 (by decide +kernel)) (pl_m 2 (by decide +kernel)) (pl_m 717 (by decide +kernel))) rfl rfl rfl (by decide +kernel) ⟨(Nat.le_of_ble_eq_true rfl), (Nat.le_of_ble_eq_true rfl)⟩) ⟨pn_B_blind, va_recv hK hPc (ci := 4) (q0 := 0) rfl rfl, (pn_B_at hPc hK)⟩ rfl rfl hl.1 rfl (lv_room (Nat.le_of_ble_eq_true rfl)) dX4_digest_19 ⟨(Nat.le_of_ble_eq_true rfl), (Nat.le_of_ble_eq_true rfl)⟩) hS hA hP (fun r_35 H locs hw hP hS => ?_)
  have hP : va_P D vwCl [(h0, .inr (4, [.ref t, .ref fi, .ref st, .ref mc])), (t, .inr (3, [.int 0, .ref t1, .ref t2, .ref t3, .ref t4, .ref t5, .ref t6, .ref t7, .ref t8, .ref t9])), (st, .inr (2, [.int 0, .int 0, .long 0, .int 0, .int 0, .ref s5, .ref s6, .ref s7, .ref s8, .ref s9, .ref s10, .ref s11, .ref s12, .ref s13, .ref s14, .ref s15, .ref s16]))] H := hP
  obtain ⟨rfl, hw⟩ := hw
  try simp only [Int32.reduceToInt] at hw
  refine lv_i2l (v := 0) hx hb dX4_digest_22 (by decide +kernel) ?_
  refine lv_ladd hx hb dX4_digest_23 ?_
  refine lv_topl (fun f_36 ef_36 => ?_)
  have ef_36 : f_36 = (-8167004378837541839) := by rw [ef_36]; decide +kernel
  subst ef_36
  refine lv_lstore_n (lv' := [(1, .long (-8167004378837541839)), (3, .int 11), (0, .ref h0)]) hx hb dX4_digest_24 rfl hl (by decide) rfl (fun ls hl => ?_)
  refine lv_iinc (v := 12) (lv' := [(3, .int 12), (1, .long (-8167004378837541839)), (0, .ref h0)]) hx hb dX4_digest_25 hl (k := 1) rfl (by decide) (by decide) rfl (fun ls hl => ?_)
  refine lv_goto (tgt := 6) hx hb dX4_digest_28 (by decide) ?_
  refine lv_iload_n hx hb dX4_digest_6 rfl (lv_at hl 0 rfl) ?_
  refine lv_bipush (v := 13) hx hb dX4_digest_7 (by decide) ?_
  refine lv_icmp_gt (tgt := 31) hx hb dX4_digest_9 (by decide) (fun h9 => absurd h9 (by decide)) (fun _ => ?_)
  refine lv_lload_n hx hb dX4_digest_12 rfl (lv_at hl 1 rfl) ?_
  refine lv_ldc2 hx hb hown (hts (.constantLong RX4 245 (31)) (pl_m 848 (by decide +kernel))) dX4_digest_13 ?_
  refine lv_lmul hx hb dX4_digest_16 ?_
  refine lv_topl (fun f_37 ef_37 => ?_)
  have ef_37 : f_37 = 5077281287969925615 := by rw [ef_37]; decide +kernel
  subst ef_37
  refine lv_aload_n hx hb dX4_digest_17 rfl (lv_at hl 2 rfl) ?_
  refine lv_iload_n hx hb dX4_digest_18 rfl (lv_at hl 0 rfl) ?_
  have hPc := hP.sub (ws' := [(h0, .inr (4, [.ref t, .ref fi, .ref st, .ref mc])), (t, .inr (3, [.int 0, .ref t1, .ref t2, .ref t3, .ref t4, .ref t5, .ref t6, .ref t7, .ref t8, .ref t9])), (st, .inr (2, [.int 0, .int 0, .long 0, .int 0, .int 0, .ref s5, .ref s6, .ref s7, .ref s8, .ref s9, .ref s10, .ref s11, .ref s12, .ref s13, .ref s14, .ref s15, .ref s16]))]) [0, 1, 2] rfl
  refine pn_ci (va_runV (As := [.int 12]) (rest := [.long 5077281287969925615]) ⟨hx, hb, hml, hown, hts⟩ (c_X4_many_ok l D cI cZ cJ cG H.size h0 t fi st mc t1 t2 t3 t4 t5 t6 t7 t8 t9 s5 s6 s7 s8 s9 s10 s11 s12 s13 s14 s15 s16 12 (by decide)) (cwV 1 hts (pl_V (pl_m 849 (by decide +kernel)) (pl_m 715 (by decide +kernel)) (pl_m 716 (by decide +kernel)) (pl_m 2 (by decide +kernel)) (pl_m 717 (by decide +kernel))) rfl rfl rfl (by decide +kernel) ⟨(Nat.le_of_ble_eq_true rfl), (Nat.le_of_ble_eq_true rfl)⟩) ⟨pn_B_blind, va_recv hK hPc (ci := 4) (q0 := 0) rfl rfl, (pn_B_at hPc hK)⟩ rfl rfl hl.1 rfl (lv_room (Nat.le_of_ble_eq_true rfl)) dX4_digest_19 ⟨(Nat.le_of_ble_eq_true rfl), (Nat.le_of_ble_eq_true rfl)⟩) hS hA hP (fun r_38 H locs hw hP hS => ?_)
  have hP : va_P D vwCl [(h0, .inr (4, [.ref t, .ref fi, .ref st, .ref mc])), (t, .inr (3, [.int 0, .ref t1, .ref t2, .ref t3, .ref t4, .ref t5, .ref t6, .ref t7, .ref t8, .ref t9])), (st, .inr (2, [.int 0, .int 0, .long 0, .int 0, .int 0, .ref s5, .ref s6, .ref s7, .ref s8, .ref s9, .ref s10, .ref s11, .ref s12, .ref s13, .ref s14, .ref s15, .ref s16]))] H := hP
  obtain ⟨rfl, hw⟩ := hw
  try simp only [Int32.reduceToInt] at hw
  refine lv_i2l (v := 0) hx hb dX4_digest_22 (by decide +kernel) ?_
  refine lv_ladd hx hb dX4_digest_23 ?_
  refine lv_topl (fun f_39 ef_39 => ?_)
  have ef_39 : f_39 = 5077281287969925615 := by rw [ef_39]; decide +kernel
  subst ef_39
  refine lv_lstore_n (lv' := [(1, .long 5077281287969925615), (3, .int 12), (0, .ref h0)]) hx hb dX4_digest_24 rfl hl (by decide) rfl (fun ls hl => ?_)
  refine lv_iinc (v := 13) (lv' := [(3, .int 13), (1, .long 5077281287969925615), (0, .ref h0)]) hx hb dX4_digest_25 hl (k := 1) rfl (by decide) (by decide) rfl (fun ls hl => ?_)
  refine lv_goto (tgt := 6) hx hb dX4_digest_28 (by decide) ?_
  refine lv_iload_n hx hb dX4_digest_6 rfl (lv_at hl 0 rfl) ?_
  refine lv_bipush (v := 13) hx hb dX4_digest_7 (by decide) ?_
  refine lv_icmp_gt (tgt := 31) hx hb dX4_digest_9 (by decide) (fun h9 => absurd h9 (by decide)) (fun _ => ?_)
  refine lv_lload_n hx hb dX4_digest_12 rfl (lv_at hl 1 rfl) ?_
  refine lv_ldc2 hx hb hown (hts (.constantLong RX4 245 (31)) (pl_m 848 (by decide +kernel))) dX4_digest_13 ?_
  refine lv_lmul hx hb dX4_digest_16 ?_
  refine lv_topl (fun f_40 ef_40 => ?_)
  have ef_40 : f_40 = (-8624976736318270479) := by rw [ef_40]; decide +kernel
  subst ef_40
  refine lv_aload_n hx hb dX4_digest_17 rfl (lv_at hl 2 rfl) ?_
  refine lv_iload_n hx hb dX4_digest_18 rfl (lv_at hl 0 rfl) ?_
  have hPc := hP.sub (ws' := [(h0, .inr (4, [.ref t, .ref fi, .ref st, .ref mc])), (t, .inr (3, [.int 0, .ref t1, .ref t2, .ref t3, .ref t4, .ref t5, .ref t6, .ref t7, .ref t8, .ref t9])), (st, .inr (2, [.int 0, .int 0, .long 0, .int 0, .int 0, .ref s5, .ref s6, .ref s7, .ref s8, .ref s9, .ref s10, .ref s11, .ref s12, .ref s13, .ref s14, .ref s15, .ref s16]))]) [0, 1, 2] rfl
  refine pn_ci (va_runV (As := [.int 13]) (rest := [.long (-8624976736318270479)]) ⟨hx, hb, hml, hown, hts⟩ (c_X4_many_ok l D cI cZ cJ cG H.size h0 t fi st mc t1 t2 t3 t4 t5 t6 t7 t8 t9 s5 s6 s7 s8 s9 s10 s11 s12 s13 s14 s15 s16 13 (by decide)) (cwV 1 hts (pl_V (pl_m 849 (by decide +kernel)) (pl_m 715 (by decide +kernel)) (pl_m 716 (by decide +kernel)) (pl_m 2 (by decide +kernel)) (pl_m 717 (by decide +kernel))) rfl rfl rfl (by decide +kernel) ⟨(Nat.le_of_ble_eq_true rfl), (Nat.le_of_ble_eq_true rfl)⟩) ⟨pn_B_blind, va_recv hK hPc (ci := 4) (q0 := 0) rfl rfl, (pn_B_at hPc hK)⟩ rfl rfl hl.1 rfl (lv_room (Nat.le_of_ble_eq_true rfl)) dX4_digest_19 ⟨(Nat.le_of_ble_eq_true rfl), (Nat.le_of_ble_eq_true rfl)⟩) hS hA hP (fun r_41 H locs hw hP hS => ?_)
  have hP : va_P D vwCl [(h0, .inr (4, [.ref t, .ref fi, .ref st, .ref mc])), (t, .inr (3, [.int 0, .ref t1, .ref t2, .ref t3, .ref t4, .ref t5, .ref t6, .ref t7, .ref t8, .ref t9])), (st, .inr (2, [.int 0, .int 0, .long 0, .int 0, .int 0, .ref s5, .ref s6, .ref s7, .ref s8, .ref s9, .ref s10, .ref s11, .ref s12, .ref s13, .ref s14, .ref s15, .ref s16]))] H := hP
  obtain ⟨rfl, hw⟩ := hw
  try simp only [Int32.reduceToInt] at hw
  refine lv_i2l (v := 0) hx hb dX4_digest_22 (by decide +kernel) ?_
  refine lv_ladd hx hb dX4_digest_23 ?_
  refine lv_topl (fun f_42 ef_42 => ?_)
  have ef_42 : f_42 = (-8624976736318270479) := by rw [ef_42]; decide +kernel
  subst ef_42
  refine lv_lstore_n (lv' := [(1, .long (-8624976736318270479)), (3, .int 13), (0, .ref h0)]) hx hb dX4_digest_24 rfl hl (by decide) rfl (fun ls hl => ?_)
  refine lv_iinc (v := 14) (lv' := [(3, .int 14), (1, .long (-8624976736318270479)), (0, .ref h0)]) hx hb dX4_digest_25 hl (k := 1) rfl (by decide) (by decide) rfl (fun ls hl => ?_)
  refine lv_goto (tgt := 6) hx hb dX4_digest_28 (by decide) ?_
  refine lv_iload_n hx hb dX4_digest_6 rfl (lv_at hl 0 rfl) ?_
  refine lv_bipush (v := 13) hx hb dX4_digest_7 (by decide) ?_
  refine lv_icmp_gt (tgt := 31) hx hb dX4_digest_9 (by decide) (fun _ => ?_) (fun h9 => absurd (by decide) h9)
  refine lv_iconst (v := 0) hx hb dX4_digest_31 (by decide) ?_
  refine lv_istore_n (lv' := [(3, .int 0), (1, .long (-8624976736318270479)), (0, .ref h0)]) hx hb dX4_digest_32 rfl hl (by decide) rfl (fun ls hl => ?_)
  refine lv_iload_n hx hb dX4_digest_33 rfl (lv_at hl 0 rfl) ?_
  refine lv_aload_n hx hb dX4_digest_34 rfl (lv_at hl 2 rfl) ?_
  refine va_get (D := D) (ci := 4) (v := .ref t) (C := RX4) (T := TX4) (N := 4) hx hb hts inlX4 hown hK hP 0 rfl rfl 0 (by decide) (hts (.fieldLink RX4 12 "VtableTown" "told" "LVtableTown$Told;") (pl_m 16 (by decide +kernel))) (fun _ h9 => h9) rfl dX4_digest_35 ?_
  refine va_get (D := D) (ci := 3) (v := .int 0) (C := RX3) (T := TX3) (N := 10) hx hb hts inlX3 hown hK hP 1 rfl rfl 0 (by decide) (hts (.fieldLink RX4 41 "VtableTown$Told" "count" "I") (pl_m 118 (by decide +kernel))) (fun _ h9 => h9) rfl dX4_digest_38 ?_
  refine lv_icmp_ge (tgt := 57) hx hb dX4_digest_41 (by decide) (fun _ => ?_) (fun h9 => absurd (by decide) h9)
  refine lv_iconst (v := 0) hx hb dX4_digest_57 (by decide) ?_
  refine lv_istore_n (lv' := [(3, .int 0), (1, .long (-8624976736318270479)), (0, .ref h0)]) hx hb dX4_digest_58 rfl hl (by decide) rfl (fun ls hl => ?_)
  refine lv_iload_n hx hb dX4_digest_59 rfl (lv_at hl 0 rfl) ?_
  refine lv_aload_n hx hb dX4_digest_60 rfl (lv_at hl 2 rfl) ?_
  refine va_get (D := D) (ci := 4) (v := .ref t) (C := RX4) (T := TX4) (N := 4) hx hb hts inlX4 hown hK hP 0 rfl rfl 0 (by decide) (hts (.fieldLink RX4 12 "VtableTown" "told" "LVtableTown$Told;") (pl_m 16 (by decide +kernel))) (fun _ h9 => h9) rfl dX4_digest_61 ?_
  refine va_get (D := D) (ci := 3) (v := .int 0) (C := RX3) (T := TX3) (N := 10) hx hb hts inlX3 hown hK hP 1 rfl rfl 0 (by decide) (hts (.fieldLink RX4 41 "VtableTown$Told" "count" "I") (pl_m 118 (by decide +kernel))) (fun _ h9 => h9) rfl dX4_digest_64 ?_
  refine lv_icmp_ge (tgt := 83) hx hb dX4_digest_67 (by decide) (fun _ => ?_) (fun h9 => absurd (by decide) h9)
  refine lv_iconst (v := 0) hx hb dX4_digest_83 (by decide) ?_
  refine lv_istore_n (lv' := [(3, .int 0), (1, .long (-8624976736318270479)), (0, .ref h0)]) hx hb dX4_digest_84 rfl hl (by decide) rfl (fun ls hl => ?_)
  refine lv_iload_n hx hb dX4_digest_85 rfl (lv_at hl 0 rfl) ?_
  refine lv_aload_n hx hb dX4_digest_86 rfl (lv_at hl 2 rfl) ?_
  refine va_get (D := D) (ci := 4) (v := .ref t) (C := RX4) (T := TX4) (N := 4) hx hb hts inlX4 hown hK hP 0 rfl rfl 0 (by decide) (hts (.fieldLink RX4 12 "VtableTown" "told" "LVtableTown$Told;") (pl_m 16 (by decide +kernel))) (fun _ h9 => h9) rfl dX4_digest_87 ?_
  refine va_get (D := D) (ci := 3) (v := .int 0) (C := RX3) (T := TX3) (N := 10) hx hb hts inlX3 hown hK hP 1 rfl rfl 0 (by decide) (hts (.fieldLink RX4 41 "VtableTown$Told" "count" "I") (pl_m 118 (by decide +kernel))) (fun _ h9 => h9) rfl dX4_digest_90 ?_
  refine lv_icmp_ge (tgt := 148) hx hb dX4_digest_93 (by decide) (fun _ => ?_) (fun h9 => absurd (by decide) h9)
  refine lv_lload_n hx hb dX4_digest_148 rfl (lv_at hl 1 rfl) ?_
  exact W.lret (v := (-8624976736318270479)) hx hb hr (fun tz_ ht hW => ⟨⟨(-8624976736318270479), (), rfl, ⟨rfl, (by first | exact trivial | omega | (simp only [Int32.reduceToInt] at *; omega) | decide)⟩, trivial⟩, hS.F ht⟩) hS.2.2 dX4_digest_149
