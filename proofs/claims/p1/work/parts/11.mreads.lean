theorem dX5_isPlace_0 : decode cX5_isPlace 0 = .ok (.iload_n 1, 1) := by decide +kernel
theorem dX5_isPlace_1 : decode cX5_isPlace 1 = .ok (.bipush 6, 2) := by decide +kernel
theorem dX5_isPlace_3 : decode cX5_isPlace 3 = .ok (.idiv, 1) := by decide +kernel
theorem dX5_isPlace_4 : decode cX5_isPlace 4 = .ok (.bipush 7, 2) := by decide +kernel
theorem dX5_isPlace_6 : decode cX5_isPlace 6 = .ok (.idiv, 1) := by decide +kernel
theorem dX5_isPlace_7 : decode cX5_isPlace 7 = .ok (.istore_n 2, 1) := by decide +kernel
theorem dX5_isPlace_8 : decode cX5_isPlace 8 = .ok (.iload_n 1, 1) := by decide +kernel
theorem dX5_isPlace_9 : decode cX5_isPlace 9 = .ok (.bipush 6, 2) := by decide +kernel
theorem dX5_isPlace_11 : decode cX5_isPlace 11 = .ok (.idiv, 1) := by decide +kernel
theorem dX5_isPlace_12 : decode cX5_isPlace 12 = .ok (.bipush 7, 2) := by decide +kernel
theorem dX5_isPlace_14 : decode cX5_isPlace 14 = .ok (.irem, 1) := by decide +kernel
theorem dX5_isPlace_15 : decode cX5_isPlace 15 = .ok (.istore_n 3, 1) := by decide +kernel
theorem dX5_isPlace_16 : decode cX5_isPlace 16 = .ok (.iload_n 2, 1) := by decide +kernel
theorem dX5_isPlace_17 : decode cX5_isPlace 17 = .ok (.aload_n 0, 1) := by decide +kernel
theorem dX5_isPlace_18 : decode cX5_isPlace 18 = .ok (.getfield 84, 3) := by decide +kernel
theorem dX5_isPlace_21 : decode cX5_isPlace 21 = .ok (.if_icmp .ge 64, 3) := by decide +kernel
theorem dX5_isPlace_85 : decode cX5_isPlace 85 = .ok (.iconst 0, 1) := by decide +kernel
theorem dX5_isPlace_86 : decode cX5_isPlace 86 = .ok (.ireturn, 1) := by decide +kernel
theorem dX5_isReal_0 : decode cX5_isReal 0 = .ok (.aload_n 0, 1) := by decide +kernel
theorem dX5_isReal_1 : decode cX5_isReal 1 = .ok (.iload_n 1, 1) := by decide +kernel
theorem dX5_isReal_2 : decode cX5_isReal 2 = .ok (.invokevirtual 116, 3) := by decide +kernel
theorem dX5_isReal_5 : decode cX5_isReal 5 = .ok (.ifCond .eq 24, 3) := by decide +kernel
theorem dX5_isReal_29 : decode cX5_isReal 29 = .ok (.iconst 0, 1) := by decide +kernel
theorem dX5_isReal_30 : decode cX5_isReal 30 = .ok (.ireturn, 1) := by decide +kernel
theorem dX5_isTold_0 : decode cX5_isTold 0 = .ok (.iload_n 1, 1) := by decide +kernel
theorem dX5_isTold_1 : decode cX5_isTold 1 = .ok (.iconst 0, 1) := by decide +kernel
theorem dX5_isTold_2 : decode cX5_isTold 2 = .ok (.aload_n 0, 1) := by decide +kernel
theorem dX5_isTold_3 : decode cX5_isTold 3 = .ok (.getfield 84, 3) := by decide +kernel
theorem dX5_isTold_6 : decode cX5_isTold 6 = .ok (.iconst 1, 1) := by decide +kernel
theorem dX5_isTold_7 : decode cX5_isTold 7 = .ok (.isub, 1) := by decide +kernel
theorem dX5_isTold_8 : decode cX5_isTold 8 = .ok (.invokestatic 87, 3) := by decide +kernel
theorem dX5_isTold_11 : decode cX5_isTold 11 = .ok (.ireturn, 1) := by decide +kernel
theorem dX5_loadNow_0 : decode cX5_loadNow 0 = .ok (.aload_n 0, 1) := by decide +kernel
theorem dX5_loadNow_1 : decode cX5_loadNow 1 = .ok (.iload_n 1, 1) := by decide +kernel
theorem dX5_loadNow_2 : decode cX5_loadNow 2 = .ok (.invokevirtual 116, 3) := by decide +kernel
theorem dX5_loadNow_5 : decode cX5_loadNow 5 = .ok (.ifCond .ne 5, 3) := by decide +kernel
theorem dX5_loadNow_8 : decode cX5_loadNow 8 = .ok (.iconst 1, 1) := by decide +kernel
theorem dX5_loadNow_9 : decode cX5_loadNow 9 = .ok (.ireturn, 1) := by decide +kernel
theorem dX5_manyNow_0 : decode cX5_manyNow 0 = .ok (.iconst 0, 1) := by decide +kernel
theorem dX5_manyNow_1 : decode cX5_manyNow 1 = .ok (.istore_n 2, 1) := by decide +kernel
theorem dX5_manyNow_2 : decode cX5_manyNow 2 = .ok (.iload_n 1, 1) := by decide +kernel
theorem dX5_manyNow_3 : decode cX5_manyNow 3 = .ok (.tableswitch 163 0 13 #[69, 74, 74, 74, 112, 163, 163, 163, 163, 163, 163, 148, 153, 158], 69) := by decide +kernel
theorem dX5_manyNow_72 : decode cX5_manyNow 72 = .ok (.aload_n 0, 1) := by decide +kernel
theorem dX5_manyNow_73 : decode cX5_manyNow 73 = .ok (.getfield 84, 3) := by decide +kernel
theorem dX5_manyNow_76 : decode cX5_manyNow 76 = .ok (.ireturn, 1) := by decide +kernel
theorem dX5_manyNow_77 : decode cX5_manyNow 77 = .ok (.iconst 0, 1) := by decide +kernel
theorem dX5_manyNow_78 : decode cX5_manyNow 78 = .ok (.istore_n 3, 1) := by decide +kernel
theorem dX5_manyNow_79 : decode cX5_manyNow 79 = .ok (.iload_n 3, 1) := by decide +kernel
theorem dX5_manyNow_80 : decode cX5_manyNow 80 = .ok (.aload_n 0, 1) := by decide +kernel
theorem dX5_manyNow_81 : decode cX5_manyNow 81 = .ok (.getfield 84, 3) := by decide +kernel
theorem dX5_manyNow_84 : decode cX5_manyNow 84 = .ok (.if_icmp .ge 29, 3) := by decide +kernel
theorem dX5_manyNow_113 : decode cX5_manyNow 113 = .ok (.iload_n 2, 1) := by decide +kernel
theorem dX5_manyNow_114 : decode cX5_manyNow 114 = .ok (.ireturn, 1) := by decide +kernel
theorem dX5_manyNow_115 : decode cX5_manyNow 115 = .ok (.iconst 0, 1) := by decide +kernel
theorem dX5_manyNow_116 : decode cX5_manyNow 116 = .ok (.istore_n 3, 1) := by decide +kernel
theorem dX5_manyNow_117 : decode cX5_manyNow 117 = .ok (.iload_n 3, 1) := by decide +kernel
theorem dX5_manyNow_118 : decode cX5_manyNow 118 = .ok (.aload_n 0, 1) := by decide +kernel
theorem dX5_manyNow_119 : decode cX5_manyNow 119 = .ok (.getfield 84, 3) := by decide +kernel
theorem dX5_manyNow_122 : decode cX5_manyNow 122 = .ok (.if_icmp .ge 27, 3) := by decide +kernel
theorem dX5_manyNow_149 : decode cX5_manyNow 149 = .ok (.iload_n 2, 1) := by decide +kernel
theorem dX5_manyNow_150 : decode cX5_manyNow 150 = .ok (.ireturn, 1) := by decide +kernel
theorem dX5_manyNow_151 : decode cX5_manyNow 151 = .ok (.aload_n 0, 1) := by decide +kernel
theorem dX5_manyNow_152 : decode cX5_manyNow 152 = .ok (.getfield 102, 3) := by decide +kernel
theorem dX5_manyNow_155 : decode cX5_manyNow 155 = .ok (.ireturn, 1) := by decide +kernel
theorem dX5_manyNow_156 : decode cX5_manyNow 156 = .ok (.aload_n 0, 1) := by decide +kernel
theorem dX5_manyNow_157 : decode cX5_manyNow 157 = .ok (.getfield 185, 3) := by decide +kernel
theorem dX5_manyNow_160 : decode cX5_manyNow 160 = .ok (.ireturn, 1) := by decide +kernel
theorem dX5_manyNow_161 : decode cX5_manyNow 161 = .ok (.aload_n 0, 1) := by decide +kernel
theorem dX5_manyNow_162 : decode cX5_manyNow 162 = .ok (.getfield 191, 3) := by decide +kernel
theorem dX5_manyNow_165 : decode cX5_manyNow 165 = .ok (.ireturn, 1) := by decide +kernel
theorem dX5_manyNow_166 : decode cX5_manyNow 166 = .ok (.aload_n 0, 1) := by decide +kernel
theorem dX5_manyNow_167 : decode cX5_manyNow 167 = .ok (.iload_n 1, 1) := by decide +kernel
theorem dX5_manyNow_168 : decode cX5_manyNow 168 = .ok (.invokevirtual 247, 3) := by decide +kernel
theorem dX5_manyNow_171 : decode cX5_manyNow 171 = .ok (.ireturn, 1) := by decide +kernel
theorem dX5_sum_0 : decode cX5_sum 0 = .ok (.iconst 0, 1) := by decide +kernel
theorem dX5_sum_1 : decode cX5_sum 1 = .ok (.istore_n 2, 1) := by decide +kernel
theorem dX5_sum_2 : decode cX5_sum 2 = .ok (.iconst 0, 1) := by decide +kernel
theorem dX5_sum_3 : decode cX5_sum 3 = .ok (.istore_n 3, 1) := by decide +kernel
theorem dX5_sum_4 : decode cX5_sum 4 = .ok (.iload_n 3, 1) := by decide +kernel
theorem dX5_sum_5 : decode cX5_sum 5 = .ok (.sipush 504, 3) := by decide +kernel
theorem dX5_sum_8 : decode cX5_sum 8 = .ok (.if_icmp .ge 98, 3) := by decide +kernel
theorem dX5_sum_11 : decode cX5_sum 11 = .ok (.aload_n 0, 1) := by decide +kernel
theorem dX5_sum_12 : decode cX5_sum 12 = .ok (.iload_n 3, 1) := by decide +kernel
theorem dX5_sum_13 : decode cX5_sum 13 = .ok (.invokevirtual 179, 3) := by decide +kernel
theorem dX5_sum_16 : decode cX5_sum 16 = .ok (.ifCond .ne 6, 3) := by decide +kernel
theorem dX5_sum_19 : decode cX5_sum 19 = .ok (.goto 81, 3) := by decide +kernel
theorem dX5_sum_100 : decode cX5_sum 100 = .ok (.iinc 3 1, 3) := by decide +kernel
theorem dX5_sum_103 : decode cX5_sum 103 = .ok (.goto (-99), 3) := by decide +kernel
theorem dX5_sum_106 : decode cX5_sum 106 = .ok (.iload_n 2, 1) := by decide +kernel
theorem dX5_sum_107 : decode cX5_sum 107 = .ok (.ireturn, 1) := by decide +kernel
theorem dX5_thrown_0 : decode cX5_thrown 0 = .ok (.aload_n 0, 1) := by decide +kernel
theorem dX5_thrown_1 : decode cX5_thrown 1 = .ok (.getfield 80, 3) := by decide +kernel
theorem dX5_thrown_4 : decode cX5_thrown 4 = .ok (.ireturn, 1) := by decide +kernel
set_option maxHeartbeats 4000000 in
set_option maxRecDepth 100000 in
theorem c_X5_thrown (l : Launch) (D : va_G) (cI cZ cJ cG : ClassId) (sz : Nat) (h0 : Nat) (th : Int32) (fs : List Value) : Met l yX5_thrown (pl_h yX5_thrown cX5_thrown 1 (some .int)) ({ frames := 0, cells := 0, slots := 0, locals := 0 }) (va_Pc [.ref h0] (pn_B D (pn_Y cI cZ cJ cG) [(h0, .inr (5, (.int th :: fs)))] sz)) (va_Qi (fun (r : Int32) (u : Unit) => (r = th ∧ True)) (fun _ _ => True) (pn_N sz)) 0 0 (pn_N sz) := by
  refine Met.ofW (cc := cX5_thrown) (maxL := 1) (ret := (some .int)) (by decide) rfl ?_
  intro p e s m args below meth c s₁ B hml hv
  obtain ⟨rfl, hsz, hP, hK⟩ := hv
  have hx := B.exec
  have hb := B.bytes
  have hr := B.returns
  have hts0 := atoms_spec (ws := pl_h yX5_thrown cX5_thrown 1 (some .int)) B.pre
  have hts := fun (w : Cond) (h : w ∈ pw_all) => hts0 w (List.mem_cons_of_mem _ h)
  have hown : s.vm.findClass RX5 = some m.cls := findClass_of_methodNamed B.named
  have hlocks := B.notSynchronized
  subst hsz
  have hA : ∀ q : Nat, s.heap.size ≤ q → pn_N s.heap.size q := fun q h => h
  have hS : va_S (pn_N s.heap.size) s.heap s.heap [] := va_S.rf
  have hl := lv_entry ([.ref h0]) (n := 1) (Nat.le_of_ble_eq_true rfl)
  rw [lg_entry_eq]
  generalize (lg_sl ([.ref h0]) ++ List.replicate (1 - (lg_sl ([.ref h0])).length) Slot.unset).toArray = ls at hl ⊢
  have hl : lv_has ls 1 [(0, .ref h0)] := hl
  refine lv_aload_n hx hb dX5_thrown_0 rfl (lv_at hl 0 rfl) ?_
  refine va_get (D := D) (ci := 5) (v := .int th) (C := RX5) (T := TX5) (N := 32) hx hb hts inlX5 hown hK hP 0 rfl rfl 0 (by decide) (hts (.fieldLink RX5 80 "VtableTownModel" "thrown" "I") (pl_m 137 (by decide +kernel))) (fun _ h9 => h9) rfl dX5_thrown_1 ?_
  exact W.iret (v := th) hx hb hr (fun tz_ ht hW => ⟨⟨th, (), rfl, ⟨rfl, (by first | exact trivial | omega | (simp only [Int32.reduceToInt] at *; omega) | decide)⟩, trivial⟩, hS.F ht⟩) hS.2.2 dX5_thrown_4
set_option maxHeartbeats 4000000 in
set_option maxRecDepth 100000 in
theorem c_X5_isTold (l : Launch) (D : va_G) (cI cZ cJ cG : ClassId) (sz : Nat) (h0 : Nat) (th : Int32) (fs : List Value) (p0 : Int32) : Met l yX5_isTold (pl_h yX5_isTold cX5_isTold 2 (some .boolean)) ({ frames := 1, cells := 0, slots := 0, locals := 22 }) (va_Pc [.ref h0, .int p0] (pn_B D (pn_Y cI cZ cJ cG) [(h0, .inr (5, (.int th :: .int 0 :: fs)))] sz)) (va_Qi (fun (r : Int32) (u : Unit) => (r = 0 ∧ True)) (fun _ _ => True) (pn_N sz)) 0 0 (pn_N sz) := by
  refine Met.ofW (cc := cX5_isTold) (maxL := 2) (ret := (some .boolean)) (by decide) rfl ?_
  intro p e s m args below meth c s₁ B hml hv
  obtain ⟨rfl, hsz, hP, hK⟩ := hv
  have hx := B.exec
  have hb := B.bytes
  have hr := B.returns
  have hts0 := atoms_spec (ws := pl_h yX5_isTold cX5_isTold 2 (some .boolean)) B.pre
  have hts := fun (w : Cond) (h : w ∈ pw_all) => hts0 w (List.mem_cons_of_mem _ h)
  have hown : s.vm.findClass RX5 = some m.cls := findClass_of_methodNamed B.named
  have hlocks := B.notSynchronized
  subst hsz
  have hA : ∀ q : Nat, s.heap.size ≤ q → pn_N s.heap.size q := fun q h => h
  have hS : va_S (pn_N s.heap.size) s.heap s.heap [] := va_S.rf
  have hl := lv_entry ([.ref h0, .int p0]) (n := 2) (Nat.le_of_ble_eq_true rfl)
  rw [lg_entry_eq]
  generalize (lg_sl ([.ref h0, .int p0]) ++ List.replicate (2 - (lg_sl ([.ref h0, .int p0])).length) Slot.unset).toArray = ls at hl ⊢
  have hl : lv_has ls 2 [(0, .ref h0), (1, .int p0)] := hl
  refine lv_iload_n hx hb dX5_isTold_0 rfl (lv_at hl 1 rfl) ?_
  refine lv_iconst (v := 0) hx hb dX5_isTold_1 (by decide) ?_
  refine lv_aload_n hx hb dX5_isTold_2 rfl (lv_at hl 0 rfl) ?_
  refine va_get (D := D) (ci := 5) (v := .int 0) (C := RX5) (T := TX5) (N := 32) hx hb hts inlX5 hown hK hP 0 rfl rfl 1 (by decide) (hts (.fieldLink RX5 84 "VtableTownModel" "classes" "I") (pl_m 138 (by decide +kernel))) (fun _ h9 => h9) rfl dX5_isTold_3 ?_
  refine lv_iconst (v := 1) hx hb dX5_isTold_6 (by decide) ?_
  refine lv_isub hx hb dX5_isTold_7 ?_
  refine lv_topi (fun f_1 ef_1 => ?_)
  have ef_1 : f_1 = (-1) := by rw [ef_1]; decide +kernel
  subst ef_1
  have hPc := hP.sub (ws' := []) [] rfl
  refine pn_ci (va_runS (As := [.int p0, .int 0, .int (-1)]) (rest := []) ⟨hx, hb, hml, hown, hts⟩ (c_X5_isIn l D cI cZ cJ cG s.heap.size p0 0 (-1)) (va_cwS 3 hts (pl_S (pl_m 139 (by decide +kernel)) (pl_m 140 (by decide +kernel)) (pl_m 5 (by decide +kernel)) (pl_m 141 (by decide +kernel))) rfl rfl rfl (by decide +kernel) ⟨(Nat.le_of_ble_eq_true rfl), (Nat.le_of_ble_eq_true rfl)⟩) ⟨pn_B_blind, (pn_B_at hPc hK)⟩ rfl rfl hl.1 rfl (lv_room (Nat.le_of_ble_eq_true rfl)) dX5_isTold_8 ⟨(Nat.le_of_ble_eq_true rfl), (Nat.le_of_ble_eq_true rfl)⟩) hS hA hP (fun r_2 H locs hw hP hS => ?_)
  have hP : va_P D vwCl [(h0, .inr (5, (.int th :: .int 0 :: fs)))] H := hP
  rcases hw with ⟨rfl, hw⟩ | ⟨rfl, hw⟩
  · try simp only [Int32.reduceToInt] at hw
    have hw_3 := hw
    exfalso; omega
  · try simp only [Int32.reduceToInt] at hw
    have hw_4 := hw
    exact W.zret (v := 0) (ty := .boolean) hx hb hr (by decide) (fun tz_ ht hW => ⟨⟨0, (), rfl, ⟨rfl, (by first | exact trivial | omega | (simp only [Int32.reduceToInt] at *; omega) | decide)⟩, trivial⟩, hS.F ht⟩) hS.2.2 dX5_isTold_11
set_option maxHeartbeats 4000000 in
set_option maxRecDepth 100000 in
theorem c_X5_isReal (l : Launch) (D : va_G) (cI cZ cJ cG : ClassId) (sz : Nat) (h0 : Nat) (th : Int32) (fs : List Value) (p0 : Int32) : Met l yX5_isReal (pl_h yX5_isReal cX5_isReal 2 (some .boolean)) ({ frames := 2, cells := 0, slots := 0, locals := 43 }) (va_Pc [.ref h0, .int p0] (pn_B D (pn_Y cI cZ cJ cG) [(h0, .inr (5, (.int th :: .int 0 :: fs)))] sz)) (va_Qi (fun (r : Int32) (u : Unit) => (r = 0 ∧ True)) (fun _ _ => True) (pn_N sz)) 0 0 (pn_N sz) := by
  refine Met.ofW (cc := cX5_isReal) (maxL := 2) (ret := (some .boolean)) (by decide) rfl ?_
  intro p e s m args below meth c s₁ B hml hv
  obtain ⟨rfl, hsz, hP, hK⟩ := hv
  have hx := B.exec
  have hb := B.bytes
  have hr := B.returns
  have hts0 := atoms_spec (ws := pl_h yX5_isReal cX5_isReal 2 (some .boolean)) B.pre
  have hts := fun (w : Cond) (h : w ∈ pw_all) => hts0 w (List.mem_cons_of_mem _ h)
  have hown : s.vm.findClass RX5 = some m.cls := findClass_of_methodNamed B.named
  have hlocks := B.notSynchronized
  subst hsz
  have hA : ∀ q : Nat, s.heap.size ≤ q → pn_N s.heap.size q := fun q h => h
  have hS : va_S (pn_N s.heap.size) s.heap s.heap [] := va_S.rf
  have hl := lv_entry ([.ref h0, .int p0]) (n := 2) (Nat.le_of_ble_eq_true rfl)
  rw [lg_entry_eq]
  generalize (lg_sl ([.ref h0, .int p0]) ++ List.replicate (2 - (lg_sl ([.ref h0, .int p0])).length) Slot.unset).toArray = ls at hl ⊢
  have hl : lv_has ls 2 [(0, .ref h0), (1, .int p0)] := hl
  refine lv_aload_n hx hb dX5_isReal_0 rfl (lv_at hl 0 rfl) ?_
  refine lv_iload_n hx hb dX5_isReal_1 rfl (lv_at hl 1 rfl) ?_
  have hPc := hP.sub (ws' := [(h0, .inr (5, (.int th :: .int 0 :: fs)))]) [0] rfl
  refine pn_ci (va_runV (As := [.int p0]) (rest := []) ⟨hx, hb, hml, hown, hts⟩ (c_X5_isTold l D cI cZ cJ cG s.heap.size h0 th fs p0) (cwV 1 hts (pl_V (pl_m 203 (by decide +kernel)) (pl_m 204 (by decide +kernel)) (pl_m 205 (by decide +kernel)) (pl_m 5 (by decide +kernel)) (pl_m 206 (by decide +kernel))) rfl rfl rfl (by decide +kernel) ⟨(Nat.le_of_ble_eq_true rfl), (Nat.le_of_ble_eq_true rfl)⟩) ⟨pn_B_blind, va_recv hK hPc (ci := 5) (q0 := 0) rfl rfl, (pn_B_at hPc hK)⟩ rfl rfl hl.1 rfl (lv_room (Nat.le_of_ble_eq_true rfl)) dX5_isReal_2 ⟨(Nat.le_of_ble_eq_true rfl), (Nat.le_of_ble_eq_true rfl)⟩) hS hA hP (fun r_1 H locs hw hP hS => ?_)
  have hP : va_P D vwCl [(h0, .inr (5, (.int th :: .int 0 :: fs)))] H := hP
  obtain ⟨rfl, hw⟩ := hw
  try simp only [Int32.reduceToInt] at hw
  refine lv_if_eq (tgt := 29) hx hb dX5_isReal_5 (by decide) (fun _ => ?_) (fun h9 => absurd (by decide) h9)
  refine lv_iconst (v := 0) hx hb dX5_isReal_29 (by decide) ?_
  exact W.zret (v := 0) (ty := .boolean) hx hb hr (by decide) (fun tz_ ht hW => ⟨⟨0, (), rfl, ⟨rfl, (by first | exact trivial | omega | (simp only [Int32.reduceToInt] at *; omega) | decide)⟩, trivial⟩, hS.F ht⟩) hS.2.2 dX5_isReal_30
set_option maxHeartbeats 4000000 in
set_option maxRecDepth 100000 in
theorem c_X5_loadNow (l : Launch) (D : va_G) (cI cZ cJ cG : ClassId) (sz : Nat) (h0 : Nat) (th : Int32) (fs : List Value) (p0 : Int32) : Met l yX5_loadNow (pl_h yX5_loadNow cX5_loadNow 4 (some .int)) ({ frames := 2, cells := 0, slots := 0, locals := 43 }) (va_Pc [.ref h0, .int p0] (pn_B D (pn_Y cI cZ cJ cG) [(h0, .inr (5, (.int th :: .int 0 :: fs)))] sz)) (va_Qi (fun (r : Int32) (u : Unit) => (r = 1 ∧ True)) (fun _ _ => True) (pn_N sz)) 0 0 (pn_N sz) := by
  refine Met.ofW (cc := cX5_loadNow) (maxL := 4) (ret := (some .int)) (by decide) rfl ?_
  intro p e s m args below meth c s₁ B hml hv
  obtain ⟨rfl, hsz, hP, hK⟩ := hv
  have hx := B.exec
  have hb := B.bytes
  have hr := B.returns
  have hts0 := atoms_spec (ws := pl_h yX5_loadNow cX5_loadNow 4 (some .int)) B.pre
  have hts := fun (w : Cond) (h : w ∈ pw_all) => hts0 w (List.mem_cons_of_mem _ h)
  have hown : s.vm.findClass RX5 = some m.cls := findClass_of_methodNamed B.named
  have hlocks := B.notSynchronized
  subst hsz
  have hA : ∀ q : Nat, s.heap.size ≤ q → pn_N s.heap.size q := fun q h => h
  have hS : va_S (pn_N s.heap.size) s.heap s.heap [] := va_S.rf
  have hl := lv_entry ([.ref h0, .int p0]) (n := 4) (Nat.le_of_ble_eq_true rfl)
  rw [lg_entry_eq]
  generalize (lg_sl ([.ref h0, .int p0]) ++ List.replicate (4 - (lg_sl ([.ref h0, .int p0])).length) Slot.unset).toArray = ls at hl ⊢
  have hl : lv_has ls 4 [(0, .ref h0), (1, .int p0)] := hl
  refine lv_aload_n hx hb dX5_loadNow_0 rfl (lv_at hl 0 rfl) ?_
  refine lv_iload_n hx hb dX5_loadNow_1 rfl (lv_at hl 1 rfl) ?_
  have hPc := hP.sub (ws' := [(h0, .inr (5, (.int th :: .int 0 :: fs)))]) [0] rfl
  refine pn_ci (va_runV (As := [.int p0]) (rest := []) ⟨hx, hb, hml, hown, hts⟩ (c_X5_isTold l D cI cZ cJ cG s.heap.size h0 th fs p0) (cwV 1 hts (pl_V (pl_m 203 (by decide +kernel)) (pl_m 204 (by decide +kernel)) (pl_m 205 (by decide +kernel)) (pl_m 5 (by decide +kernel)) (pl_m 206 (by decide +kernel))) rfl rfl rfl (by decide +kernel) ⟨(Nat.le_of_ble_eq_true rfl), (Nat.le_of_ble_eq_true rfl)⟩) ⟨pn_B_blind, va_recv hK hPc (ci := 5) (q0 := 0) rfl rfl, (pn_B_at hPc hK)⟩ rfl rfl hl.1 rfl (lv_room (Nat.le_of_ble_eq_true rfl)) dX5_loadNow_2 ⟨(Nat.le_of_ble_eq_true rfl), (Nat.le_of_ble_eq_true rfl)⟩) hS hA hP (fun r_1 H locs hw hP hS => ?_)
  have hP : va_P D vwCl [(h0, .inr (5, (.int th :: .int 0 :: fs)))] H := hP
  obtain ⟨rfl, hw⟩ := hw
  try simp only [Int32.reduceToInt] at hw
  refine lv_if_ne (tgt := 10) hx hb dX5_loadNow_5 (by decide) (fun h9 => absurd (by decide) h9) (fun _ => ?_)
  refine lv_iconst (v := 1) hx hb dX5_loadNow_8 (by decide) ?_
  exact W.iret (v := 1) hx hb hr (fun tz_ ht hW => ⟨⟨1, (), rfl, ⟨rfl, (by first | exact trivial | omega | (simp only [Int32.reduceToInt] at *; omega) | decide)⟩, trivial⟩, hS.F ht⟩) hS.2.2 dX5_loadNow_9
set_option maxHeartbeats 4000000 in
set_option maxRecDepth 100000 in
theorem c_X5_isPlace (l : Launch) (D : va_G) (cI cZ cJ cG : ClassId) (sz : Nat) (h0 : Nat) (th : Int32) (fs : List Value) (i : Nat) (hi : i < 504) : Met l yX5_isPlace (pl_h yX5_isPlace cX5_isPlace 4 (some .boolean)) ({ frames := 0, cells := 0, slots := 0, locals := 0 }) (va_Pc [.ref h0, .int (nI i)] (pn_B D (pn_Y cI cZ cJ cG) [(h0, .inr (5, (.int th :: .int 0 :: fs)))] sz)) (va_Qi (fun (r : Int32) (u : Unit) => (r = 0 ∧ True)) (fun _ _ => True) (pn_N sz)) 0 0 (pn_N sz) := by
  refine Met.ofW (cc := cX5_isPlace) (maxL := 4) (ret := (some .boolean)) (by decide) rfl ?_
  intro p e s m args below meth c s₁ B hml hv
  obtain ⟨rfl, hsz, hP, hK⟩ := hv
  have hx := B.exec
  have hb := B.bytes
  have hr := B.returns
  have hts0 := atoms_spec (ws := pl_h yX5_isPlace cX5_isPlace 4 (some .boolean)) B.pre
  have hts := fun (w : Cond) (h : w ∈ pw_all) => hts0 w (List.mem_cons_of_mem _ h)
  have hown : s.vm.findClass RX5 = some m.cls := findClass_of_methodNamed B.named
  have hlocks := B.notSynchronized
  subst hsz
  have hA : ∀ q : Nat, s.heap.size ≤ q → pn_N s.heap.size q := fun q h => h
  have hS : va_S (pn_N s.heap.size) s.heap s.heap [] := va_S.rf
  have hl := lv_entry ([.ref h0, .int (nI i)]) (n := 4) (Nat.le_of_ble_eq_true rfl)
  rw [lg_entry_eq]
  generalize (lg_sl ([.ref h0, .int (nI i)]) ++ List.replicate (4 - (lg_sl ([.ref h0, .int (nI i)])).length) Slot.unset).toArray = ls at hl ⊢
  have hl : lv_has ls 4 [(0, .ref h0), (1, .int (nI i))] := hl
  refine lv_iload_n hx hb dX5_isPlace_0 rfl (lv_at hl 1 rfl) ?_
  refine lv_bipush (v := 6) hx hb dX5_isPlace_1 (by decide) ?_
  refine lv_idiv hx hb dX5_isPlace_3 (by decide) ?_
  refine lv_topi (fun f_1 ef_1 => ?_)
  have ef_1 : f_1 = nI (i / 6) := by rw [ef_1]; exact pk_div (a := i) (d := 6) (by omega) (by decide) (by decide)
  subst ef_1
  refine lv_bipush (v := 7) hx hb dX5_isPlace_4 (by decide) ?_
  refine lv_idiv hx hb dX5_isPlace_6 (by decide) ?_
  refine lv_topi (fun f_2 ef_2 => ?_)
  have ef_2 : f_2 = nI ((i / 6) / 7) := by rw [ef_2]; exact pk_div (a := (i / 6)) (d := 7) (by omega) (by decide) (by decide)
  subst ef_2
  refine lv_istore_n (lv' := [(2, .int (nI ((i / 6) / 7))), (0, .ref h0), (1, .int (nI i))]) hx hb dX5_isPlace_7 rfl hl (by decide) rfl (fun ls hl => ?_)
  refine lv_iload_n hx hb dX5_isPlace_8 rfl (lv_at hl 2 rfl) ?_
  refine lv_bipush (v := 6) hx hb dX5_isPlace_9 (by decide) ?_
  refine lv_idiv hx hb dX5_isPlace_11 (by decide) ?_
  refine lv_topi (fun f_3 ef_3 => ?_)
  have ef_3 : f_3 = nI (i / 6) := by rw [ef_3]; exact pk_div (a := i) (d := 6) (by omega) (by decide) (by decide)
  subst ef_3
  refine lv_bipush (v := 7) hx hb dX5_isPlace_12 (by decide) ?_
  refine lv_irem hx hb dX5_isPlace_14 (by decide) ?_
  refine lv_topi (fun f_4 ef_4 => ?_)
  have ef_4 : f_4 = nI ((i / 6) % 7) := by rw [ef_4]; exact pk_rem (a := (i / 6)) (d := 7) (by omega) (by decide) (by decide)
  subst ef_4
  refine lv_istore_n (lv' := [(3, .int (nI ((i / 6) % 7))), (2, .int (nI ((i / 6) / 7))), (0, .ref h0), (1, .int (nI i))]) hx hb dX5_isPlace_15 rfl hl (by decide) rfl (fun ls hl => ?_)
  refine lv_iload_n hx hb dX5_isPlace_16 rfl (lv_at hl 1 rfl) ?_
  refine lv_aload_n hx hb dX5_isPlace_17 rfl (lv_at hl 2 rfl) ?_
  refine va_get (D := D) (ci := 5) (v := .int 0) (C := RX5) (T := TX5) (N := 32) hx hb hts inlX5 hown hK hP 0 rfl rfl 1 (by decide) (hts (.fieldLink RX5 84 "VtableTownModel" "classes" "I") (pl_m 138 (by decide +kernel))) (fun _ h9 => h9) rfl dX5_isPlace_18 ?_
  have hn_6 := nI_toInt (n := ((i / 6) / 7)) (by omega)
  refine lv_icmp_ge (tgt := 85) hx hb dX5_isPlace_21 (by decide) (fun c_5 => ?_) (fun c_5 => ?_)
  · simp only [pn_lt, pn_le, pn_eq, Int32.reduceToInt] at c_5
    refine lv_iconst (v := 0) hx hb dX5_isPlace_85 (by decide) ?_
    exact W.zret (v := 0) (ty := .boolean) hx hb hr (by decide) (fun tz_ ht hW => ⟨⟨0, (), rfl, ⟨rfl, (by first | exact trivial | omega | (simp only [Int32.reduceToInt] at *; omega) | decide)⟩, trivial⟩, hS.F ht⟩) hS.2.2 dX5_isPlace_86
  · simp only [pn_lt, pn_le, pn_eq, Int32.reduceToInt] at c_5
    exfalso; omega
set_option maxHeartbeats 4000000 in
set_option maxRecDepth 100000 in
theorem c_X5_sum (l : Launch) (D : va_G) (cI cZ cJ cG : ClassId) (sz : Nat) (h0 : Nat) (th : Int32) (fs : List Value) (p0 : Int32) : Met l yX5_sum (pl_h yX5_sum cX5_sum 4 (some .int)) ({ frames := 1, cells := 0, slots := 0, locals := 23 }) (va_Pc [.ref h0, .int p0] (pn_B D (pn_Y cI cZ cJ cG) [(h0, .inr (5, (.int th :: .int 0 :: fs)))] sz)) (va_Qi (fun (r : Int32) (u : Unit) => (r = 0 ∧ True)) (fun _ _ => True) (pn_N sz)) 0 0 (pn_N sz) := by
  refine Met.ofW (cc := cX5_sum) (maxL := 4) (ret := (some .int)) (by decide) rfl ?_
  intro p e s m args below meth c s₁ B hml hv
  obtain ⟨rfl, hsz, hP, hK⟩ := hv
  have hx := B.exec
  have hb := B.bytes
  have hr := B.returns
  have hts0 := atoms_spec (ws := pl_h yX5_sum cX5_sum 4 (some .int)) B.pre
  have hts := fun (w : Cond) (h : w ∈ pw_all) => hts0 w (List.mem_cons_of_mem _ h)
  have hown : s.vm.findClass RX5 = some m.cls := findClass_of_methodNamed B.named
  have hlocks := B.notSynchronized
  subst hsz
  have hA : ∀ q : Nat, s.heap.size ≤ q → pn_N s.heap.size q := fun q h => h
  have hS : va_S (pn_N s.heap.size) s.heap s.heap [] := va_S.rf
  have hl := lv_entry ([.ref h0, .int p0]) (n := 4) (Nat.le_of_ble_eq_true rfl)
  rw [lg_entry_eq]
  generalize (lg_sl ([.ref h0, .int p0]) ++ List.replicate (4 - (lg_sl ([.ref h0, .int p0])).length) Slot.unset).toArray = ls at hl ⊢
  have hl : lv_has ls 4 [(0, .ref h0), (1, .int p0)] := hl
  refine lv_iconst (v := 0) hx hb dX5_sum_0 (by decide) ?_
  refine lv_istore_n (lv' := [(2, .int 0), (0, .ref h0), (1, .int p0)]) hx hb dX5_sum_1 rfl hl (by decide) rfl (fun ls hl => ?_)
  refine lv_iconst (v := 0) hx hb dX5_sum_2 (by decide) ?_
  refine lv_istore_n (lv' := [(3, .int 0), (2, .int 0), (0, .ref h0), (1, .int p0)]) hx hb dX5_sum_3 rfl hl (by decide) rfl (fun ls hl => ?_)
  have LOOP : ∀ (n i : Nat) (H : Heap) (locs : List Loc) (ls : Array Slot), i + n = 504 → va_P D vwCl [(h0, .inr (5, (.int th :: .int 0 :: fs)))] H → va_S (pn_N s.heap.size) s.heap H locs → lv_has ls 4 [(0, .ref h0), (1, .int p0), (2, .int 0), (3, .int (nI i))] → W p l e (headSpec (pl_h yX5_sum cX5_sum 4 (some .int)) ({ frames := 1, cells := 0, slots := 0, locals := 23 })).room s m ([.ref h0, .int p0] : List Value).toArray below meth c H locs 0 0 (MQ below (va_Qi (fun (r : Int32) (u : Unit) => (r = 0 ∧ True)) (fun _ _ => True) (pn_N s.heap.size)) ([.ref h0, .int p0] : List Value).toArray s 0 0 (pn_N s.heap.size)) (F0 m 4 ls []) := by
    intro n
    induction n with
    | zero =>
      intro i H locs ls hi hP hS hl
      obtain rfl : i = 504 := by omega
      have hl : lv_has ls 4 [(0, .ref h0), (1, .int p0), (2, .int 0), (3, .int 504)] := hl
      refine lv_iload_n hx hb dX5_sum_4 rfl (lv_at hl 3 rfl) ?_
      refine lv_sipush (v := 504) hx hb dX5_sum_5 (by decide) ?_
      refine lv_icmp_ge (tgt := 106) hx hb dX5_sum_8 (by decide) (fun _ => ?_) (fun h9 => absurd (by decide) h9)
      refine lv_iload_n hx hb dX5_sum_106 rfl (lv_at hl 2 rfl) ?_
      exact W.iret (v := 0) hx hb hr (fun tz_ ht hW => ⟨⟨0, (), rfl, ⟨rfl, (by first | exact trivial | omega | (simp only [Int32.reduceToInt] at *; omega) | decide)⟩, trivial⟩, hS.F ht⟩) hS.2.2 dX5_sum_107
    | succ n ih =>
      intro i H locs ls hi hP hS hl
      refine lv_iload_n hx hb dX5_sum_4 rfl (lv_at hl 3 rfl) ?_
      refine lv_sipush (v := 504) hx hb dX5_sum_5 (by decide) ?_
      have hn_2 := nI_toInt (n := i) (by omega)
      refine lv_icmp_ge (tgt := 106) hx hb dX5_sum_8 (by decide) (fun c_1 => ?_) (fun c_1 => ?_)
      · simp only [pn_lt, pn_le, pn_eq, Int32.reduceToInt] at c_1
        exfalso; omega
      · simp only [pn_lt, pn_le, pn_eq, Int32.reduceToInt] at c_1
        refine lv_aload_n hx hb dX5_sum_11 rfl (lv_at hl 0 rfl) ?_
        refine lv_iload_n hx hb dX5_sum_12 rfl (lv_at hl 3 rfl) ?_
        have hPc := hP.sub (ws' := [(h0, .inr (5, (.int th :: .int 0 :: fs)))]) [0] rfl
        refine pn_ci (va_runV (As := [.int (nI i)]) (rest := []) ⟨hx, hb, hml, hown, hts⟩ (c_X5_isPlace l D cI cZ cJ cG H.size h0 th fs i (by omega)) (cwV 1 hts (pl_V (pl_m 414 (by decide +kernel)) (pl_m 415 (by decide +kernel)) (pl_m 416 (by decide +kernel)) (pl_m 5 (by decide +kernel)) (pl_m 417 (by decide +kernel))) rfl rfl rfl (by decide +kernel) ⟨(Nat.le_of_ble_eq_true rfl), (Nat.le_of_ble_eq_true rfl)⟩) ⟨pn_B_blind, va_recv hK hPc (ci := 5) (q0 := 0) rfl rfl, (pn_B_at hPc hK)⟩ rfl rfl hl.1 rfl (lv_room (Nat.le_of_ble_eq_true rfl)) dX5_sum_13 ⟨(Nat.le_of_ble_eq_true rfl), (Nat.le_of_ble_eq_true rfl)⟩) hS hA hP (fun r_3 H locs hw hP hS => ?_)
        have hP : va_P D vwCl [(h0, .inr (5, (.int th :: .int 0 :: fs)))] H := hP
        obtain ⟨rfl, hw⟩ := hw
        try simp only [Int32.reduceToInt] at hw
        refine lv_if_ne (tgt := 22) hx hb dX5_sum_16 (by decide) (fun h9 => absurd (by decide) h9) (fun _ => ?_)
        refine lv_goto (tgt := 100) hx hb dX5_sum_19 (by decide) ?_
        refine lv_iinc (v := (nI (i + 1))) (lv' := [(3, .int (nI (i + 1))), (0, .ref h0), (1, .int p0), (2, .int 0)]) hx hb dX5_sum_100 hl (k := 3) rfl (nI_1 i) (by decide) rfl (fun ls hl => ?_)
        refine lv_goto (tgt := 4) hx hb dX5_sum_103 (by decide) ?_
        exact ih (i + 1) H locs ls (by omega) hP hS (lv_sub hl [1, 2, 3, 0] rfl)
  exact LOOP 504 0 _ _ ls (by omega) hP hS (lv_sub hl [2, 3, 1, 0] rfl)
set_option maxHeartbeats 4000000 in
set_option maxRecDepth 100000 in
theorem c_X5_manyNow (l : Launch) (D : va_G) (cI cZ cJ cG : ClassId) (sz : Nat) (h0 : Nat) (a2 : Nat) (a3 : Nat) (a4 : Nat) (a5 : Nat) (a6 : Nat) (a7 : Nat) (a8 : Nat) (a9 : Nat) (a10 : Nat) (a11 : Nat) (a12 : Nat) (a13 : Nat) (a14 : Nat) (a15 : Nat) (a16 : Nat) (a17 : Nat) (a18 : Nat) (a19 : Nat) (a20 : Nat) (a21 : Nat) (a22 : Nat) (a23 : Nat) (a31 : Nat) (th : Int32) (p0 : Int32) : Met l yX5_manyNow (pl_h yX5_manyNow cX5_manyNow 4 (some .int)) ({ frames := 2, cells := 0, slots := 0, locals := 46 }) (va_Pc [.ref h0, .int p0] (pn_B D (pn_Y cI cZ cJ cG) [(h0, .inr (5, [.int th, .int 0, .ref a2, .ref a3, .ref a4, .ref a5, .ref a6, .ref a7, .ref a8, .ref a9, .ref a10, .ref a11, .ref a12, .ref a13, .ref a14, .ref a15, .ref a16, .ref a17, .ref a18, .ref a19, .ref a20, .ref a21, .ref a22, .ref a23, .int 0, .int 0, .int 0, .int 0, .int 0, .int 0, .int 0, .ref a31]))] sz)) (va_Qi (fun (r : Int32) (u : Unit) => (r = 0 ∧ True)) (fun _ _ => True) (pn_N sz)) 0 0 (pn_N sz) := by
  refine Met.ofW (cc := cX5_manyNow) (maxL := 4) (ret := (some .int)) (by decide) rfl ?_
  intro p e s m args below meth c s₁ B hml hv
  obtain ⟨rfl, hsz, hP, hK⟩ := hv
  have hx := B.exec
  have hb := B.bytes
  have hr := B.returns
  have hts0 := atoms_spec (ws := pl_h yX5_manyNow cX5_manyNow 4 (some .int)) B.pre
  have hts := fun (w : Cond) (h : w ∈ pw_all) => hts0 w (List.mem_cons_of_mem _ h)
  have hown : s.vm.findClass RX5 = some m.cls := findClass_of_methodNamed B.named
  have hlocks := B.notSynchronized
  subst hsz
  have hA : ∀ q : Nat, s.heap.size ≤ q → pn_N s.heap.size q := fun q h => h
  have hS : va_S (pn_N s.heap.size) s.heap s.heap [] := va_S.rf
  have hl := lv_entry ([.ref h0, .int p0]) (n := 4) (Nat.le_of_ble_eq_true rfl)
  rw [lg_entry_eq]
  generalize (lg_sl ([.ref h0, .int p0]) ++ List.replicate (4 - (lg_sl ([.ref h0, .int p0])).length) Slot.unset).toArray = ls at hl ⊢
  have hl : lv_has ls 4 [(0, .ref h0), (1, .int p0)] := hl
  refine lv_iconst (v := 0) hx hb dX5_manyNow_0 (by decide) ?_
  refine lv_istore_n (lv' := [(2, .int 0), (0, .ref h0), (1, .int p0)]) hx hb dX5_manyNow_1 rfl hl (by decide) rfl (fun ls hl => ?_)
  refine lv_iload_n hx hb dX5_manyNow_2 rfl (lv_at hl 2 rfl) ?_
  rcases (show (p0.toInt < 0 ∨ 13 < p0.toInt) ∨ p0 = 0 ∨ p0 = 1 ∨ p0 = 2 ∨ p0 = 3 ∨ p0 = 4 ∨ p0 = 5 ∨ p0 = 6 ∨ p0 = 7 ∨ p0 = 8 ∨ p0 = 9 ∨ p0 = 10 ∨ p0 = 11 ∨ p0 = 12 ∨ p0 = 13 from by simp only [pn_eq, Int32.reduceToInt]; omega) with hsw | rfl | rfl | rfl | rfl | rfl | rfl | rfl | rfl | rfl | rfl | rfl | rfl | rfl | rfl
  · refine lv_tableOut (tgt := 166) hx hb dX5_manyNow_3 hsw (by decide) ?_
    refine lv_aload_n hx hb dX5_manyNow_166 rfl (lv_at hl 1 rfl) ?_
    refine lv_iload_n hx hb dX5_manyNow_167 rfl (lv_at hl 2 rfl) ?_
    have hPc := hP.sub (ws' := [(h0, .inr (5, [.int th, .int 0, .ref a2, .ref a3, .ref a4, .ref a5, .ref a6, .ref a7, .ref a8, .ref a9, .ref a10, .ref a11, .ref a12, .ref a13, .ref a14, .ref a15, .ref a16, .ref a17, .ref a18, .ref a19, .ref a20, .ref a21, .ref a22, .ref a23, .int 0, .int 0, .int 0, .int 0, .int 0, .int 0, .int 0, .ref a31]))]) [0] rfl
    refine pn_ci (va_runV (As := [.int p0]) (rest := []) ⟨hx, hb, hml, hown, hts⟩ (c_X5_sum l D cI cZ cJ cG s.heap.size h0 th ([.ref a2, .ref a3, .ref a4, .ref a5, .ref a6, .ref a7, .ref a8, .ref a9, .ref a10, .ref a11, .ref a12, .ref a13, .ref a14, .ref a15, .ref a16, .ref a17, .ref a18, .ref a19, .ref a20, .ref a21, .ref a22, .ref a23, .int 0, .int 0, .int 0, .int 0, .int 0, .int 0, .int 0, .ref a31]) p0) (cwV 1 hts (pl_V (pl_m 741 (by decide +kernel)) (pl_m 742 (by decide +kernel)) (pl_m 743 (by decide +kernel)) (pl_m 5 (by decide +kernel)) (pl_m 744 (by decide +kernel))) rfl rfl rfl (by decide +kernel) ⟨(Nat.le_of_ble_eq_true rfl), (Nat.le_of_ble_eq_true rfl)⟩) ⟨pn_B_blind, va_recv hK hPc (ci := 5) (q0 := 0) rfl rfl, (pn_B_at hPc hK)⟩ rfl rfl hl.1 rfl (lv_room (Nat.le_of_ble_eq_true rfl)) dX5_manyNow_168 ⟨(Nat.le_of_ble_eq_true rfl), (Nat.le_of_ble_eq_true rfl)⟩) hS hA hP (fun r_1 H locs hw hP hS => ?_)
    have hP : va_P D vwCl [(h0, .inr (5, [.int th, .int 0, .ref a2, .ref a3, .ref a4, .ref a5, .ref a6, .ref a7, .ref a8, .ref a9, .ref a10, .ref a11, .ref a12, .ref a13, .ref a14, .ref a15, .ref a16, .ref a17, .ref a18, .ref a19, .ref a20, .ref a21, .ref a22, .ref a23, .int 0, .int 0, .int 0, .int 0, .int 0, .int 0, .int 0, .ref a31]))] H := hP
    obtain ⟨rfl, hw⟩ := hw
    try simp only [Int32.reduceToInt] at hw
    exact W.iret (v := 0) hx hb hr (fun tz_ ht hW => ⟨⟨0, (), rfl, ⟨rfl, (by first | exact trivial | omega | (simp only [Int32.reduceToInt] at *; omega) | decide)⟩, trivial⟩, hS.F ht⟩) hS.2.2 dX5_manyNow_171
  · refine lv_tableIn (off := 69) (tgt := 72) hx hb dX5_manyNow_3 (by decide) (by decide) (by decide +kernel) (by decide) ?_
    refine lv_aload_n hx hb dX5_manyNow_72 rfl (lv_at hl 1 rfl) ?_
    refine va_get (D := D) (ci := 5) (v := .int 0) (C := RX5) (T := TX5) (N := 32) hx hb hts inlX5 hown hK hP 0 rfl rfl 1 (by decide) (hts (.fieldLink RX5 84 "VtableTownModel" "classes" "I") (pl_m 138 (by decide +kernel))) (fun _ h9 => h9) rfl dX5_manyNow_73 ?_
    exact W.iret (v := 0) hx hb hr (fun tz_ ht hW => ⟨⟨0, (), rfl, ⟨rfl, (by first | exact trivial | omega | (simp only [Int32.reduceToInt] at *; omega) | decide)⟩, trivial⟩, hS.F ht⟩) hS.2.2 dX5_manyNow_76
  · refine lv_tableIn (off := 74) (tgt := 77) hx hb dX5_manyNow_3 (by decide) (by decide) (by decide +kernel) (by decide) ?_
    refine lv_iconst (v := 0) hx hb dX5_manyNow_77 (by decide) ?_
    refine lv_istore_n (lv' := [(3, .int 0), (2, .int 0), (0, .ref h0), (1, .int 1)]) hx hb dX5_manyNow_78 rfl hl (by decide) rfl (fun ls hl => ?_)
    refine lv_iload_n hx hb dX5_manyNow_79 rfl (lv_at hl 0 rfl) ?_
    refine lv_aload_n hx hb dX5_manyNow_80 rfl (lv_at hl 2 rfl) ?_
    refine va_get (D := D) (ci := 5) (v := .int 0) (C := RX5) (T := TX5) (N := 32) hx hb hts inlX5 hown hK hP 0 rfl rfl 1 (by decide) (hts (.fieldLink RX5 84 "VtableTownModel" "classes" "I") (pl_m 138 (by decide +kernel))) (fun _ h9 => h9) rfl dX5_manyNow_81 ?_
    refine lv_icmp_ge (tgt := 113) hx hb dX5_manyNow_84 (by decide) (fun _ => ?_) (fun h9 => absurd (by decide) h9)
    refine lv_iload_n hx hb dX5_manyNow_113 rfl (lv_at hl 1 rfl) ?_
    exact W.iret (v := 0) hx hb hr (fun tz_ ht hW => ⟨⟨0, (), rfl, ⟨rfl, (by first | exact trivial | omega | (simp only [Int32.reduceToInt] at *; omega) | decide)⟩, trivial⟩, hS.F ht⟩) hS.2.2 dX5_manyNow_114
  · refine lv_tableIn (off := 74) (tgt := 77) hx hb dX5_manyNow_3 (by decide) (by decide) (by decide +kernel) (by decide) ?_
    refine lv_iconst (v := 0) hx hb dX5_manyNow_77 (by decide) ?_
    refine lv_istore_n (lv' := [(3, .int 0), (2, .int 0), (0, .ref h0), (1, .int 2)]) hx hb dX5_manyNow_78 rfl hl (by decide) rfl (fun ls hl => ?_)
    refine lv_iload_n hx hb dX5_manyNow_79 rfl (lv_at hl 0 rfl) ?_
    refine lv_aload_n hx hb dX5_manyNow_80 rfl (lv_at hl 2 rfl) ?_
    refine va_get (D := D) (ci := 5) (v := .int 0) (C := RX5) (T := TX5) (N := 32) hx hb hts inlX5 hown hK hP 0 rfl rfl 1 (by decide) (hts (.fieldLink RX5 84 "VtableTownModel" "classes" "I") (pl_m 138 (by decide +kernel))) (fun _ h9 => h9) rfl dX5_manyNow_81 ?_
    refine lv_icmp_ge (tgt := 113) hx hb dX5_manyNow_84 (by decide) (fun _ => ?_) (fun h9 => absurd (by decide) h9)
    refine lv_iload_n hx hb dX5_manyNow_113 rfl (lv_at hl 1 rfl) ?_
    exact W.iret (v := 0) hx hb hr (fun tz_ ht hW => ⟨⟨0, (), rfl, ⟨rfl, (by first | exact trivial | omega | (simp only [Int32.reduceToInt] at *; omega) | decide)⟩, trivial⟩, hS.F ht⟩) hS.2.2 dX5_manyNow_114
  · refine lv_tableIn (off := 74) (tgt := 77) hx hb dX5_manyNow_3 (by decide) (by decide) (by decide +kernel) (by decide) ?_
    refine lv_iconst (v := 0) hx hb dX5_manyNow_77 (by decide) ?_
    refine lv_istore_n (lv' := [(3, .int 0), (2, .int 0), (0, .ref h0), (1, .int 3)]) hx hb dX5_manyNow_78 rfl hl (by decide) rfl (fun ls hl => ?_)
    refine lv_iload_n hx hb dX5_manyNow_79 rfl (lv_at hl 0 rfl) ?_
    refine lv_aload_n hx hb dX5_manyNow_80 rfl (lv_at hl 2 rfl) ?_
    refine va_get (D := D) (ci := 5) (v := .int 0) (C := RX5) (T := TX5) (N := 32) hx hb hts inlX5 hown hK hP 0 rfl rfl 1 (by decide) (hts (.fieldLink RX5 84 "VtableTownModel" "classes" "I") (pl_m 138 (by decide +kernel))) (fun _ h9 => h9) rfl dX5_manyNow_81 ?_
    refine lv_icmp_ge (tgt := 113) hx hb dX5_manyNow_84 (by decide) (fun _ => ?_) (fun h9 => absurd (by decide) h9)
    refine lv_iload_n hx hb dX5_manyNow_113 rfl (lv_at hl 1 rfl) ?_
    exact W.iret (v := 0) hx hb hr (fun tz_ ht hW => ⟨⟨0, (), rfl, ⟨rfl, (by first | exact trivial | omega | (simp only [Int32.reduceToInt] at *; omega) | decide)⟩, trivial⟩, hS.F ht⟩) hS.2.2 dX5_manyNow_114
  · refine lv_tableIn (off := 112) (tgt := 115) hx hb dX5_manyNow_3 (by decide) (by decide) (by decide +kernel) (by decide) ?_
    refine lv_iconst (v := 0) hx hb dX5_manyNow_115 (by decide) ?_
    refine lv_istore_n (lv' := [(3, .int 0), (2, .int 0), (0, .ref h0), (1, .int 4)]) hx hb dX5_manyNow_116 rfl hl (by decide) rfl (fun ls hl => ?_)
    refine lv_iload_n hx hb dX5_manyNow_117 rfl (lv_at hl 0 rfl) ?_
    refine lv_aload_n hx hb dX5_manyNow_118 rfl (lv_at hl 2 rfl) ?_
    refine va_get (D := D) (ci := 5) (v := .int 0) (C := RX5) (T := TX5) (N := 32) hx hb hts inlX5 hown hK hP 0 rfl rfl 1 (by decide) (hts (.fieldLink RX5 84 "VtableTownModel" "classes" "I") (pl_m 138 (by decide +kernel))) (fun _ h9 => h9) rfl dX5_manyNow_119 ?_
    refine lv_icmp_ge (tgt := 149) hx hb dX5_manyNow_122 (by decide) (fun _ => ?_) (fun h9 => absurd (by decide) h9)
    refine lv_iload_n hx hb dX5_manyNow_149 rfl (lv_at hl 1 rfl) ?_
    exact W.iret (v := 0) hx hb hr (fun tz_ ht hW => ⟨⟨0, (), rfl, ⟨rfl, (by first | exact trivial | omega | (simp only [Int32.reduceToInt] at *; omega) | decide)⟩, trivial⟩, hS.F ht⟩) hS.2.2 dX5_manyNow_150
  · refine lv_tableIn (off := 163) (tgt := 166) hx hb dX5_manyNow_3 (by decide) (by decide) (by decide +kernel) (by decide) ?_
    refine lv_aload_n hx hb dX5_manyNow_166 rfl (lv_at hl 1 rfl) ?_
    refine lv_iload_n hx hb dX5_manyNow_167 rfl (lv_at hl 2 rfl) ?_
    have hPc := hP.sub (ws' := [(h0, .inr (5, [.int th, .int 0, .ref a2, .ref a3, .ref a4, .ref a5, .ref a6, .ref a7, .ref a8, .ref a9, .ref a10, .ref a11, .ref a12, .ref a13, .ref a14, .ref a15, .ref a16, .ref a17, .ref a18, .ref a19, .ref a20, .ref a21, .ref a22, .ref a23, .int 0, .int 0, .int 0, .int 0, .int 0, .int 0, .int 0, .ref a31]))]) [0] rfl
    refine pn_ci (va_runV (As := [.int 5]) (rest := []) ⟨hx, hb, hml, hown, hts⟩ (c_X5_sum l D cI cZ cJ cG s.heap.size h0 th ([.ref a2, .ref a3, .ref a4, .ref a5, .ref a6, .ref a7, .ref a8, .ref a9, .ref a10, .ref a11, .ref a12, .ref a13, .ref a14, .ref a15, .ref a16, .ref a17, .ref a18, .ref a19, .ref a20, .ref a21, .ref a22, .ref a23, .int 0, .int 0, .int 0, .int 0, .int 0, .int 0, .int 0, .ref a31]) 5) (cwV 1 hts (pl_V (pl_m 741 (by decide +kernel)) (pl_m 742 (by decide +kernel)) (pl_m 743 (by decide +kernel)) (pl_m 5 (by decide +kernel)) (pl_m 744 (by decide +kernel))) rfl rfl rfl (by decide +kernel) ⟨(Nat.le_of_ble_eq_true rfl), (Nat.le_of_ble_eq_true rfl)⟩) ⟨pn_B_blind, va_recv hK hPc (ci := 5) (q0 := 0) rfl rfl, (pn_B_at hPc hK)⟩ rfl rfl hl.1 rfl (lv_room (Nat.le_of_ble_eq_true rfl)) dX5_manyNow_168 ⟨(Nat.le_of_ble_eq_true rfl), (Nat.le_of_ble_eq_true rfl)⟩) hS hA hP (fun r_2 H locs hw hP hS => ?_)
    have hP : va_P D vwCl [(h0, .inr (5, [.int th, .int 0, .ref a2, .ref a3, .ref a4, .ref a5, .ref a6, .ref a7, .ref a8, .ref a9, .ref a10, .ref a11, .ref a12, .ref a13, .ref a14, .ref a15, .ref a16, .ref a17, .ref a18, .ref a19, .ref a20, .ref a21, .ref a22, .ref a23, .int 0, .int 0, .int 0, .int 0, .int 0, .int 0, .int 0, .ref a31]))] H := hP
    obtain ⟨rfl, hw⟩ := hw
    try simp only [Int32.reduceToInt] at hw
    exact W.iret (v := 0) hx hb hr (fun tz_ ht hW => ⟨⟨0, (), rfl, ⟨rfl, (by first | exact trivial | omega | (simp only [Int32.reduceToInt] at *; omega) | decide)⟩, trivial⟩, hS.F ht⟩) hS.2.2 dX5_manyNow_171
  · refine lv_tableIn (off := 163) (tgt := 166) hx hb dX5_manyNow_3 (by decide) (by decide) (by decide +kernel) (by decide) ?_
    refine lv_aload_n hx hb dX5_manyNow_166 rfl (lv_at hl 1 rfl) ?_
    refine lv_iload_n hx hb dX5_manyNow_167 rfl (lv_at hl 2 rfl) ?_
    have hPc := hP.sub (ws' := [(h0, .inr (5, [.int th, .int 0, .ref a2, .ref a3, .ref a4, .ref a5, .ref a6, .ref a7, .ref a8, .ref a9, .ref a10, .ref a11, .ref a12, .ref a13, .ref a14, .ref a15, .ref a16, .ref a17, .ref a18, .ref a19, .ref a20, .ref a21, .ref a22, .ref a23, .int 0, .int 0, .int 0, .int 0, .int 0, .int 0, .int 0, .ref a31]))]) [0] rfl
    refine pn_ci (va_runV (As := [.int 6]) (rest := []) ⟨hx, hb, hml, hown, hts⟩ (c_X5_sum l D cI cZ cJ cG s.heap.size h0 th ([.ref a2, .ref a3, .ref a4, .ref a5, .ref a6, .ref a7, .ref a8, .ref a9, .ref a10, .ref a11, .ref a12, .ref a13, .ref a14, .ref a15, .ref a16, .ref a17, .ref a18, .ref a19, .ref a20, .ref a21, .ref a22, .ref a23, .int 0, .int 0, .int 0, .int 0, .int 0, .int 0, .int 0, .ref a31]) 6) (cwV 1 hts (pl_V (pl_m 741 (by decide +kernel)) (pl_m 742 (by decide +kernel)) (pl_m 743 (by decide +kernel)) (pl_m 5 (by decide +kernel)) (pl_m 744 (by decide +kernel))) rfl rfl rfl (by decide +kernel) ⟨(Nat.le_of_ble_eq_true rfl), (Nat.le_of_ble_eq_true rfl)⟩) ⟨pn_B_blind, va_recv hK hPc (ci := 5) (q0 := 0) rfl rfl, (pn_B_at hPc hK)⟩ rfl rfl hl.1 rfl (lv_room (Nat.le_of_ble_eq_true rfl)) dX5_manyNow_168 ⟨(Nat.le_of_ble_eq_true rfl), (Nat.le_of_ble_eq_true rfl)⟩) hS hA hP (fun r_3 H locs hw hP hS => ?_)
    have hP : va_P D vwCl [(h0, .inr (5, [.int th, .int 0, .ref a2, .ref a3, .ref a4, .ref a5, .ref a6, .ref a7, .ref a8, .ref a9, .ref a10, .ref a11, .ref a12, .ref a13, .ref a14, .ref a15, .ref a16, .ref a17, .ref a18, .ref a19, .ref a20, .ref a21, .ref a22, .ref a23, .int 0, .int 0, .int 0, .int 0, .int 0, .int 0, .int 0, .ref a31]))] H := hP
    obtain ⟨rfl, hw⟩ := hw
    try simp only [Int32.reduceToInt] at hw
    exact W.iret (v := 0) hx hb hr (fun tz_ ht hW => ⟨⟨0, (), rfl, ⟨rfl, (by first | exact trivial | omega | (simp only [Int32.reduceToInt] at *; omega) | decide)⟩, trivial⟩, hS.F ht⟩) hS.2.2 dX5_manyNow_171
  · refine lv_tableIn (off := 163) (tgt := 166) hx hb dX5_manyNow_3 (by decide) (by decide) (by decide +kernel) (by decide) ?_
    refine lv_aload_n hx hb dX5_manyNow_166 rfl (lv_at hl 1 rfl) ?_
    refine lv_iload_n hx hb dX5_manyNow_167 rfl (lv_at hl 2 rfl) ?_
    have hPc := hP.sub (ws' := [(h0, .inr (5, [.int th, .int 0, .ref a2, .ref a3, .ref a4, .ref a5, .ref a6, .ref a7, .ref a8, .ref a9, .ref a10, .ref a11, .ref a12, .ref a13, .ref a14, .ref a15, .ref a16, .ref a17, .ref a18, .ref a19, .ref a20, .ref a21, .ref a22, .ref a23, .int 0, .int 0, .int 0, .int 0, .int 0, .int 0, .int 0, .ref a31]))]) [0] rfl
    refine pn_ci (va_runV (As := [.int 7]) (rest := []) ⟨hx, hb, hml, hown, hts⟩ (c_X5_sum l D cI cZ cJ cG s.heap.size h0 th ([.ref a2, .ref a3, .ref a4, .ref a5, .ref a6, .ref a7, .ref a8, .ref a9, .ref a10, .ref a11, .ref a12, .ref a13, .ref a14, .ref a15, .ref a16, .ref a17, .ref a18, .ref a19, .ref a20, .ref a21, .ref a22, .ref a23, .int 0, .int 0, .int 0, .int 0, .int 0, .int 0, .int 0, .ref a31]) 7) (cwV 1 hts (pl_V (pl_m 741 (by decide +kernel)) (pl_m 742 (by decide +kernel)) (pl_m 743 (by decide +kernel)) (pl_m 5 (by decide +kernel)) (pl_m 744 (by decide +kernel))) rfl rfl rfl (by decide +kernel) ⟨(Nat.le_of_ble_eq_true rfl), (Nat.le_of_ble_eq_true rfl)⟩) ⟨pn_B_blind, va_recv hK hPc (ci := 5) (q0 := 0) rfl rfl, (pn_B_at hPc hK)⟩ rfl rfl hl.1 rfl (lv_room (Nat.le_of_ble_eq_true rfl)) dX5_manyNow_168 ⟨(Nat.le_of_ble_eq_true rfl), (Nat.le_of_ble_eq_true rfl)⟩) hS hA hP (fun r_4 H locs hw hP hS => ?_)
    have hP : va_P D vwCl [(h0, .inr (5, [.int th, .int 0, .ref a2, .ref a3, .ref a4, .ref a5, .ref a6, .ref a7, .ref a8, .ref a9, .ref a10, .ref a11, .ref a12, .ref a13, .ref a14, .ref a15, .ref a16, .ref a17, .ref a18, .ref a19, .ref a20, .ref a21, .ref a22, .ref a23, .int 0, .int 0, .int 0, .int 0, .int 0, .int 0, .int 0, .ref a31]))] H := hP
    obtain ⟨rfl, hw⟩ := hw
    try simp only [Int32.reduceToInt] at hw
    exact W.iret (v := 0) hx hb hr (fun tz_ ht hW => ⟨⟨0, (), rfl, ⟨rfl, (by first | exact trivial | omega | (simp only [Int32.reduceToInt] at *; omega) | decide)⟩, trivial⟩, hS.F ht⟩) hS.2.2 dX5_manyNow_171
  · refine lv_tableIn (off := 163) (tgt := 166) hx hb dX5_manyNow_3 (by decide) (by decide) (by decide +kernel) (by decide) ?_
    refine lv_aload_n hx hb dX5_manyNow_166 rfl (lv_at hl 1 rfl) ?_
    refine lv_iload_n hx hb dX5_manyNow_167 rfl (lv_at hl 2 rfl) ?_
    have hPc := hP.sub (ws' := [(h0, .inr (5, [.int th, .int 0, .ref a2, .ref a3, .ref a4, .ref a5, .ref a6, .ref a7, .ref a8, .ref a9, .ref a10, .ref a11, .ref a12, .ref a13, .ref a14, .ref a15, .ref a16, .ref a17, .ref a18, .ref a19, .ref a20, .ref a21, .ref a22, .ref a23, .int 0, .int 0, .int 0, .int 0, .int 0, .int 0, .int 0, .ref a31]))]) [0] rfl
    refine pn_ci (va_runV (As := [.int 8]) (rest := []) ⟨hx, hb, hml, hown, hts⟩ (c_X5_sum l D cI cZ cJ cG s.heap.size h0 th ([.ref a2, .ref a3, .ref a4, .ref a5, .ref a6, .ref a7, .ref a8, .ref a9, .ref a10, .ref a11, .ref a12, .ref a13, .ref a14, .ref a15, .ref a16, .ref a17, .ref a18, .ref a19, .ref a20, .ref a21, .ref a22, .ref a23, .int 0, .int 0, .int 0, .int 0, .int 0, .int 0, .int 0, .ref a31]) 8) (cwV 1 hts (pl_V (pl_m 741 (by decide +kernel)) (pl_m 742 (by decide +kernel)) (pl_m 743 (by decide +kernel)) (pl_m 5 (by decide +kernel)) (pl_m 744 (by decide +kernel))) rfl rfl rfl (by decide +kernel) ⟨(Nat.le_of_ble_eq_true rfl), (Nat.le_of_ble_eq_true rfl)⟩) ⟨pn_B_blind, va_recv hK hPc (ci := 5) (q0 := 0) rfl rfl, (pn_B_at hPc hK)⟩ rfl rfl hl.1 rfl (lv_room (Nat.le_of_ble_eq_true rfl)) dX5_manyNow_168 ⟨(Nat.le_of_ble_eq_true rfl), (Nat.le_of_ble_eq_true rfl)⟩) hS hA hP (fun r_5 H locs hw hP hS => ?_)
    have hP : va_P D vwCl [(h0, .inr (5, [.int th, .int 0, .ref a2, .ref a3, .ref a4, .ref a5, .ref a6, .ref a7, .ref a8, .ref a9, .ref a10, .ref a11, .ref a12, .ref a13, .ref a14, .ref a15, .ref a16, .ref a17, .ref a18, .ref a19, .ref a20, .ref a21, .ref a22, .ref a23, .int 0, .int 0, .int 0, .int 0, .int 0, .int 0, .int 0, .ref a31]))] H := hP
    obtain ⟨rfl, hw⟩ := hw
    try simp only [Int32.reduceToInt] at hw
    exact W.iret (v := 0) hx hb hr (fun tz_ ht hW => ⟨⟨0, (), rfl, ⟨rfl, (by first | exact trivial | omega | (simp only [Int32.reduceToInt] at *; omega) | decide)⟩, trivial⟩, hS.F ht⟩) hS.2.2 dX5_manyNow_171
  · refine lv_tableIn (off := 163) (tgt := 166) hx hb dX5_manyNow_3 (by decide) (by decide) (by decide +kernel) (by decide) ?_
    refine lv_aload_n hx hb dX5_manyNow_166 rfl (lv_at hl 1 rfl) ?_
    refine lv_iload_n hx hb dX5_manyNow_167 rfl (lv_at hl 2 rfl) ?_
    have hPc := hP.sub (ws' := [(h0, .inr (5, [.int th, .int 0, .ref a2, .ref a3, .ref a4, .ref a5, .ref a6, .ref a7, .ref a8, .ref a9, .ref a10, .ref a11, .ref a12, .ref a13, .ref a14, .ref a15, .ref a16, .ref a17, .ref a18, .ref a19, .ref a20, .ref a21, .ref a22, .ref a23, .int 0, .int 0, .int 0, .int 0, .int 0, .int 0, .int 0, .ref a31]))]) [0] rfl
    refine pn_ci (va_runV (As := [.int 9]) (rest := []) ⟨hx, hb, hml, hown, hts⟩ (c_X5_sum l D cI cZ cJ cG s.heap.size h0 th ([.ref a2, .ref a3, .ref a4, .ref a5, .ref a6, .ref a7, .ref a8, .ref a9, .ref a10, .ref a11, .ref a12, .ref a13, .ref a14, .ref a15, .ref a16, .ref a17, .ref a18, .ref a19, .ref a20, .ref a21, .ref a22, .ref a23, .int 0, .int 0, .int 0, .int 0, .int 0, .int 0, .int 0, .ref a31]) 9) (cwV 1 hts (pl_V (pl_m 741 (by decide +kernel)) (pl_m 742 (by decide +kernel)) (pl_m 743 (by decide +kernel)) (pl_m 5 (by decide +kernel)) (pl_m 744 (by decide +kernel))) rfl rfl rfl (by decide +kernel) ⟨(Nat.le_of_ble_eq_true rfl), (Nat.le_of_ble_eq_true rfl)⟩) ⟨pn_B_blind, va_recv hK hPc (ci := 5) (q0 := 0) rfl rfl, (pn_B_at hPc hK)⟩ rfl rfl hl.1 rfl (lv_room (Nat.le_of_ble_eq_true rfl)) dX5_manyNow_168 ⟨(Nat.le_of_ble_eq_true rfl), (Nat.le_of_ble_eq_true rfl)⟩) hS hA hP (fun r_6 H locs hw hP hS => ?_)
    have hP : va_P D vwCl [(h0, .inr (5, [.int th, .int 0, .ref a2, .ref a3, .ref a4, .ref a5, .ref a6, .ref a7, .ref a8, .ref a9, .ref a10, .ref a11, .ref a12, .ref a13, .ref a14, .ref a15, .ref a16, .ref a17, .ref a18, .ref a19, .ref a20, .ref a21, .ref a22, .ref a23, .int 0, .int 0, .int 0, .int 0, .int 0, .int 0, .int 0, .ref a31]))] H := hP
    obtain ⟨rfl, hw⟩ := hw
    try simp only [Int32.reduceToInt] at hw
    exact W.iret (v := 0) hx hb hr (fun tz_ ht hW => ⟨⟨0, (), rfl, ⟨rfl, (by first | exact trivial | omega | (simp only [Int32.reduceToInt] at *; omega) | decide)⟩, trivial⟩, hS.F ht⟩) hS.2.2 dX5_manyNow_171
  · refine lv_tableIn (off := 163) (tgt := 166) hx hb dX5_manyNow_3 (by decide) (by decide) (by decide +kernel) (by decide) ?_
    refine lv_aload_n hx hb dX5_manyNow_166 rfl (lv_at hl 1 rfl) ?_
    refine lv_iload_n hx hb dX5_manyNow_167 rfl (lv_at hl 2 rfl) ?_
    have hPc := hP.sub (ws' := [(h0, .inr (5, [.int th, .int 0, .ref a2, .ref a3, .ref a4, .ref a5, .ref a6, .ref a7, .ref a8, .ref a9, .ref a10, .ref a11, .ref a12, .ref a13, .ref a14, .ref a15, .ref a16, .ref a17, .ref a18, .ref a19, .ref a20, .ref a21, .ref a22, .ref a23, .int 0, .int 0, .int 0, .int 0, .int 0, .int 0, .int 0, .ref a31]))]) [0] rfl
    refine pn_ci (va_runV (As := [.int 10]) (rest := []) ⟨hx, hb, hml, hown, hts⟩ (c_X5_sum l D cI cZ cJ cG s.heap.size h0 th ([.ref a2, .ref a3, .ref a4, .ref a5, .ref a6, .ref a7, .ref a8, .ref a9, .ref a10, .ref a11, .ref a12, .ref a13, .ref a14, .ref a15, .ref a16, .ref a17, .ref a18, .ref a19, .ref a20, .ref a21, .ref a22, .ref a23, .int 0, .int 0, .int 0, .int 0, .int 0, .int 0, .int 0, .ref a31]) 10) (cwV 1 hts (pl_V (pl_m 741 (by decide +kernel)) (pl_m 742 (by decide +kernel)) (pl_m 743 (by decide +kernel)) (pl_m 5 (by decide +kernel)) (pl_m 744 (by decide +kernel))) rfl rfl rfl (by decide +kernel) ⟨(Nat.le_of_ble_eq_true rfl), (Nat.le_of_ble_eq_true rfl)⟩) ⟨pn_B_blind, va_recv hK hPc (ci := 5) (q0 := 0) rfl rfl, (pn_B_at hPc hK)⟩ rfl rfl hl.1 rfl (lv_room (Nat.le_of_ble_eq_true rfl)) dX5_manyNow_168 ⟨(Nat.le_of_ble_eq_true rfl), (Nat.le_of_ble_eq_true rfl)⟩) hS hA hP (fun r_7 H locs hw hP hS => ?_)
    have hP : va_P D vwCl [(h0, .inr (5, [.int th, .int 0, .ref a2, .ref a3, .ref a4, .ref a5, .ref a6, .ref a7, .ref a8, .ref a9, .ref a10, .ref a11, .ref a12, .ref a13, .ref a14, .ref a15, .ref a16, .ref a17, .ref a18, .ref a19, .ref a20, .ref a21, .ref a22, .ref a23, .int 0, .int 0, .int 0, .int 0, .int 0, .int 0, .int 0, .ref a31]))] H := hP
    obtain ⟨rfl, hw⟩ := hw
    try simp only [Int32.reduceToInt] at hw
    exact W.iret (v := 0) hx hb hr (fun tz_ ht hW => ⟨⟨0, (), rfl, ⟨rfl, (by first | exact trivial | omega | (simp only [Int32.reduceToInt] at *; omega) | decide)⟩, trivial⟩, hS.F ht⟩) hS.2.2 dX5_manyNow_171
  · refine lv_tableIn (off := 148) (tgt := 151) hx hb dX5_manyNow_3 (by decide) (by decide) (by decide +kernel) (by decide) ?_
    refine lv_aload_n hx hb dX5_manyNow_151 rfl (lv_at hl 1 rfl) ?_
    refine va_get (D := D) (ci := 5) (v := .int 0) (C := RX5) (T := TX5) (N := 32) hx hb hts inlX5 hown hK hP 0 rfl rfl 25 (by decide) (hts (.fieldLink RX5 102 "VtableTownModel" "runs" "I") (pl_m 568 (by decide +kernel))) (fun _ h9 => h9) rfl dX5_manyNow_152 ?_
    exact W.iret (v := 0) hx hb hr (fun tz_ ht hW => ⟨⟨0, (), rfl, ⟨rfl, (by first | exact trivial | omega | (simp only [Int32.reduceToInt] at *; omega) | decide)⟩, trivial⟩, hS.F ht⟩) hS.2.2 dX5_manyNow_155
  · refine lv_tableIn (off := 153) (tgt := 156) hx hb dX5_manyNow_3 (by decide) (by decide) (by decide +kernel) (by decide) ?_
    refine lv_aload_n hx hb dX5_manyNow_156 rfl (lv_at hl 1 rfl) ?_
    refine va_get (D := D) (ci := 5) (v := .int 0) (C := RX5) (T := TX5) (N := 32) hx hb hts inlX5 hown hK hP 0 rfl rfl 27 (by decide) (hts (.fieldLink RX5 185 "VtableTownModel" "cost" "I") (pl_m 403 (by decide +kernel))) (fun _ h9 => h9) rfl dX5_manyNow_157 ?_
    exact W.iret (v := 0) hx hb hr (fun tz_ ht hW => ⟨⟨0, (), rfl, ⟨rfl, (by first | exact trivial | omega | (simp only [Int32.reduceToInt] at *; omega) | decide)⟩, trivial⟩, hS.F ht⟩) hS.2.2 dX5_manyNow_160
  · refine lv_tableIn (off := 158) (tgt := 161) hx hb dX5_manyNow_3 (by decide) (by decide) (by decide +kernel) (by decide) ?_
    refine lv_aload_n hx hb dX5_manyNow_161 rfl (lv_at hl 1 rfl) ?_
    refine va_get (D := D) (ci := 5) (v := .int 0) (C := RX5) (T := TX5) (N := 32) hx hb hts inlX5 hown hK hP 0 rfl rfl 28 (by decide) (hts (.fieldLink RX5 191 "VtableTownModel" "steps" "I") (pl_m 566 (by decide +kernel))) (fun _ h9 => h9) rfl dX5_manyNow_162 ?_
    exact W.iret (v := 0) hx hb hr (fun tz_ ht hW => ⟨⟨0, (), rfl, ⟨rfl, (by first | exact trivial | omega | (simp only [Int32.reduceToInt] at *; omega) | decide)⟩, trivial⟩, hS.F ht⟩) hS.2.2 dX5_manyNow_165
