theorem dX4_checkInterfaces_0 : decode cX4_checkInterfaces 0 = .ok (.iload_n 0, 1) := by decide +kernel
theorem dX4_checkInterfaces_1 : decode cX4_checkInterfaces 1 = .ok (.ifCond .lt 10, 3) := by decide +kernel
theorem dX4_checkInterfaces_4 : decode cX4_checkInterfaces 4 = .ok (.iload_n 0, 1) := by decide +kernel
theorem dX4_checkInterfaces_5 : decode cX4_checkInterfaces 5 = .ok (.sipush 4096, 3) := by decide +kernel
theorem dX4_checkInterfaces_8 : decode cX4_checkInterfaces 8 = .ok (.if_icmp .lt 14, 3) := by decide +kernel
theorem dX4_checkInterfaces_11 : decode cX4_checkInterfaces 11 = .ok (.new 45, 3) := by decide +kernel
theorem dX4_checkInterfaces_14 : decode cX4_checkInterfaces 14 = .ok (.dup, 1) := by decide +kernel
theorem dX4_checkInterfaces_15 : decode cX4_checkInterfaces 15 = .ok (.ldc_w 272, 3) := by decide +kernel
theorem dX4_checkInterfaces_18 : decode cX4_checkInterfaces 18 = .ok (.invokespecial 49, 3) := by decide +kernel
theorem dX4_checkInterfaces_21 : decode cX4_checkInterfaces 21 = .ok (.athrow, 1) := by decide +kernel
theorem dX4_checkInterfaces_22 : decode cX4_checkInterfaces 22 = .ok (.return_, 1) := by decide +kernel
theorem dX4_checkNumber_0 : decode cX4_checkNumber 0 = .ok (.iload_n 0, 1) := by decide +kernel
theorem dX4_checkNumber_1 : decode cX4_checkNumber 1 = .ok (.invokestatic 290, 3) := by decide +kernel
theorem dX4_checkNumber_4 : decode cX4_checkNumber 4 = .ok (.ifCond .ne 14, 3) := by decide +kernel
theorem dX4_checkNumber_7 : decode cX4_checkNumber 7 = .ok (.new 120, 3) := by decide +kernel
theorem dX4_checkNumber_10 : decode cX4_checkNumber 10 = .ok (.dup, 1) := by decide +kernel
theorem dX4_checkNumber_11 : decode cX4_checkNumber 11 = .ok (.ldc_w 293, 3) := by decide +kernel
theorem dX4_checkNumber_14 : decode cX4_checkNumber 14 = .ok (.invokespecial 124, 3) := by decide +kernel
theorem dX4_checkNumber_17 : decode cX4_checkNumber 17 = .ok (.athrow, 1) := by decide +kernel
theorem dX4_checkNumber_18 : decode cX4_checkNumber 18 = .ok (.return_, 1) := by decide +kernel
theorem dX4_checkNumberAndName_0 : decode cX4_checkNumberAndName 0 = .ok (.iload_n 0, 1) := by decide +kernel
theorem dX4_checkNumberAndName_1 : decode cX4_checkNumberAndName 1 = .ok (.invokestatic 131, 3) := by decide +kernel
theorem dX4_checkNumberAndName_4 : decode cX4_checkNumberAndName 4 = .ok (.iload_n 1, 1) := by decide +kernel
theorem dX4_checkNumberAndName_5 : decode cX4_checkNumberAndName 5 = .ok (.invokestatic 295, 3) := by decide +kernel
theorem dX4_checkNumberAndName_8 : decode cX4_checkNumberAndName 8 = .ok (.ifCond .ne 14, 3) := by decide +kernel
theorem dX4_checkNumberAndName_11 : decode cX4_checkNumberAndName 11 = .ok (.new 120, 3) := by decide +kernel
theorem dX4_checkNumberAndName_14 : decode cX4_checkNumberAndName 14 = .ok (.dup, 1) := by decide +kernel
theorem dX4_checkNumberAndName_15 : decode cX4_checkNumberAndName 15 = .ok (.ldc_w 298, 3) := by decide +kernel
theorem dX4_checkNumberAndName_18 : decode cX4_checkNumberAndName 18 = .ok (.invokespecial 124, 3) := by decide +kernel
theorem dX4_checkNumberAndName_21 : decode cX4_checkNumberAndName 21 = .ok (.athrow, 1) := by decide +kernel
theorem dX4_checkNumberAndName_22 : decode cX4_checkNumberAndName 22 = .ok (.return_, 1) := by decide +kernel
theorem dX4_isCalledName_0 : decode cX4_isCalledName 0 = .ok (.iload_n 0, 1) := by decide +kernel
theorem dX4_isCalledName_1 : decode cX4_isCalledName 1 = .ok (.iconst 1, 1) := by decide +kernel
theorem dX4_isCalledName_2 : decode cX4_isCalledName 2 = .ok (.if_icmp .lt 13, 3) := by decide +kernel
theorem dX4_isCalledName_5 : decode cX4_isCalledName 5 = .ok (.iload_n 0, 1) := by decide +kernel
theorem dX4_isCalledName_6 : decode cX4_isCalledName 6 = .ok (.bipush 6, 2) := by decide +kernel
theorem dX4_isCalledName_8 : decode cX4_isCalledName 8 = .ok (.if_icmp .ge 7, 3) := by decide +kernel
theorem dX4_isCalledName_11 : decode cX4_isCalledName 11 = .ok (.iconst 1, 1) := by decide +kernel
theorem dX4_isCalledName_12 : decode cX4_isCalledName 12 = .ok (.goto 4, 3) := by decide +kernel
theorem dX4_isCalledName_15 : decode cX4_isCalledName 15 = .ok (.iconst 0, 1) := by decide +kernel
theorem dX4_isCalledName_16 : decode cX4_isCalledName 16 = .ok (.ireturn, 1) := by decide +kernel
theorem dX4_isField_0 : decode cX4_isField 0 = .ok (.iload_n 0, 1) := by decide +kernel
theorem dX4_isField_1 : decode cX4_isField 1 = .ok (.ifCond .lt 12, 3) := by decide +kernel
theorem dX4_isField_4 : decode cX4_isField 4 = .ok (.iload_n 0, 1) := by decide +kernel
theorem dX4_isField_5 : decode cX4_isField 5 = .ok (.iconst 4, 1) := by decide +kernel
theorem dX4_isField_6 : decode cX4_isField 6 = .ok (.if_icmp .ge 7, 3) := by decide +kernel
theorem dX4_isField_9 : decode cX4_isField 9 = .ok (.iconst 1, 1) := by decide +kernel
theorem dX4_isField_10 : decode cX4_isField 10 = .ok (.goto 4, 3) := by decide +kernel
theorem dX4_isField_13 : decode cX4_isField 13 = .ok (.iconst 0, 1) := by decide +kernel
theorem dX4_isField_14 : decode cX4_isField 14 = .ok (.ireturn, 1) := by decide +kernel
theorem dX4_isNumber_0 : decode cX4_isNumber 0 = .ok (.iload_n 0, 1) := by decide +kernel
theorem dX4_isNumber_1 : decode cX4_isNumber 1 = .ok (.ifCond .lt 13, 3) := by decide +kernel
theorem dX4_isNumber_4 : decode cX4_isNumber 4 = .ok (.iload_n 0, 1) := by decide +kernel
theorem dX4_isNumber_5 : decode cX4_isNumber 5 = .ok (.bipush 12, 2) := by decide +kernel
theorem dX4_isNumber_7 : decode cX4_isNumber 7 = .ok (.if_icmp .ge 7, 3) := by decide +kernel
theorem dX4_isNumber_10 : decode cX4_isNumber 10 = .ok (.iconst 1, 1) := by decide +kernel
theorem dX4_isNumber_11 : decode cX4_isNumber 11 = .ok (.goto 4, 3) := by decide +kernel
theorem dX4_isNumber_14 : decode cX4_isNumber 14 = .ok (.iconst 0, 1) := by decide +kernel
theorem dX4_isNumber_15 : decode cX4_isNumber 15 = .ok (.ireturn, 1) := by decide +kernel
set_option maxHeartbeats 4000000 in
set_option maxRecDepth 100000 in
theorem c_X4_isNumber (l : Launch) (D : va_G) (cI cZ cJ cG : ClassId) (sz : Nat) (p0 : Int32) : Met l yX4_isNumber (pl_h yX4_isNumber cX4_isNumber 1 (some .boolean)) ({ frames := 0, cells := 0, slots := 0, locals := 0 }) (va_Pc [.int p0] (pn_B D (pn_Y cI cZ cJ cG) [] sz)) (va_Qi (fun (r : Int32) (u : Unit) => (r = 1 ∧ 0 ≤ p0.toInt ∧ p0.toInt ≤ 11) ∨ (r = 0 ∧ (p0.toInt < 0 ∨ 11 < p0.toInt))) (fun _ _ => True) (pn_N sz)) 0 0 (pn_N sz) := by
  refine Met.ofW (cc := cX4_isNumber) (maxL := 1) (ret := (some .boolean)) (by decide) rfl ?_
  intro p e s m args below meth c s₁ B hml hv
  obtain ⟨rfl, hsz, hP, hK⟩ := hv
  have hx := B.exec
  have hb := B.bytes
  have hr := B.returns
  have hts0 := atoms_spec (ws := pl_h yX4_isNumber cX4_isNumber 1 (some .boolean)) B.pre
  have hts := fun (w : Cond) (h : w ∈ pw_all) => hts0 w (List.mem_cons_of_mem _ h)
  have hown : s.vm.findClass RX4 = some m.cls := findClass_of_methodNamed B.named
  have hlocks := B.notSynchronized
  subst hsz
  have hA : ∀ q : Nat, s.heap.size ≤ q → pn_N s.heap.size q := fun q h => h
  have hS : va_S (pn_N s.heap.size) s.heap s.heap [] := va_S.rf
  have hl := lv_entry ([.int p0]) (n := 1) (Nat.le_of_ble_eq_true rfl)
  rw [lg_entry_eq]
  generalize (lg_sl ([.int p0]) ++ List.replicate (1 - (lg_sl ([.int p0])).length) Slot.unset).toArray = ls at hl ⊢
  have hl : lv_has ls 1 [(0, .int p0)] := hl
  refine lv_iload_n hx hb dX4_isNumber_0 rfl (lv_at hl 0 rfl) ?_
  refine lv_if_lt (tgt := 14) hx hb dX4_isNumber_1 (by decide) (fun c_1 => ?_) (fun c_1 => ?_)
  · simp only [pn_lt, pn_le, pn_eq, Int32.reduceToInt] at c_1
    refine lv_iconst (v := 0) hx hb dX4_isNumber_14 (by decide) ?_
    exact W.zret (v := 0) (ty := .boolean) hx hb hr (by decide) (fun tz_ ht hW => ⟨⟨0, (), rfl, (Or.inr ⟨rfl, (by first | exact trivial | omega | (simp only [Int32.reduceToInt] at *; omega) | decide)⟩), trivial⟩, hS.F ht⟩) hS.2.2 dX4_isNumber_15
  · simp only [pn_lt, pn_le, pn_eq, Int32.reduceToInt] at c_1
    refine lv_iload_n hx hb dX4_isNumber_4 rfl (lv_at hl 0 rfl) ?_
    refine lv_bipush (v := 12) hx hb dX4_isNumber_5 (by decide) ?_
    refine lv_icmp_ge (tgt := 14) hx hb dX4_isNumber_7 (by decide) (fun c_2 => ?_) (fun c_2 => ?_)
    · simp only [pn_lt, pn_le, pn_eq, Int32.reduceToInt] at c_2
      refine lv_iconst (v := 0) hx hb dX4_isNumber_14 (by decide) ?_
      exact W.zret (v := 0) (ty := .boolean) hx hb hr (by decide) (fun tz_ ht hW => ⟨⟨0, (), rfl, (Or.inr ⟨rfl, (by first | exact trivial | omega | (simp only [Int32.reduceToInt] at *; omega) | decide)⟩), trivial⟩, hS.F ht⟩) hS.2.2 dX4_isNumber_15
    · simp only [pn_lt, pn_le, pn_eq, Int32.reduceToInt] at c_2
      refine lv_iconst (v := 1) hx hb dX4_isNumber_10 (by decide) ?_
      refine lv_goto (tgt := 15) hx hb dX4_isNumber_11 (by decide) ?_
      exact W.zret (v := 1) (ty := .boolean) hx hb hr (by decide) (fun tz_ ht hW => ⟨⟨1, (), rfl, (Or.inl ⟨rfl, (by first | exact trivial | omega | (simp only [Int32.reduceToInt] at *; omega) | decide)⟩), trivial⟩, hS.F ht⟩) hS.2.2 dX4_isNumber_15
set_option maxHeartbeats 4000000 in
set_option maxRecDepth 100000 in
theorem c_X4_isCalledName (l : Launch) (D : va_G) (cI cZ cJ cG : ClassId) (sz : Nat) (p0 : Int32) : Met l yX4_isCalledName (pl_h yX4_isCalledName cX4_isCalledName 1 (some .boolean)) ({ frames := 0, cells := 0, slots := 0, locals := 0 }) (va_Pc [.int p0] (pn_B D (pn_Y cI cZ cJ cG) [] sz)) (va_Qi (fun (r : Int32) (u : Unit) => (r = 1 ∧ 1 ≤ p0.toInt ∧ p0.toInt ≤ 5) ∨ (r = 0 ∧ (p0.toInt < 1 ∨ 5 < p0.toInt))) (fun _ _ => True) (pn_N sz)) 0 0 (pn_N sz) := by
  refine Met.ofW (cc := cX4_isCalledName) (maxL := 1) (ret := (some .boolean)) (by decide) rfl ?_
  intro p e s m args below meth c s₁ B hml hv
  obtain ⟨rfl, hsz, hP, hK⟩ := hv
  have hx := B.exec
  have hb := B.bytes
  have hr := B.returns
  have hts0 := atoms_spec (ws := pl_h yX4_isCalledName cX4_isCalledName 1 (some .boolean)) B.pre
  have hts := fun (w : Cond) (h : w ∈ pw_all) => hts0 w (List.mem_cons_of_mem _ h)
  have hown : s.vm.findClass RX4 = some m.cls := findClass_of_methodNamed B.named
  have hlocks := B.notSynchronized
  subst hsz
  have hA : ∀ q : Nat, s.heap.size ≤ q → pn_N s.heap.size q := fun q h => h
  have hS : va_S (pn_N s.heap.size) s.heap s.heap [] := va_S.rf
  have hl := lv_entry ([.int p0]) (n := 1) (Nat.le_of_ble_eq_true rfl)
  rw [lg_entry_eq]
  generalize (lg_sl ([.int p0]) ++ List.replicate (1 - (lg_sl ([.int p0])).length) Slot.unset).toArray = ls at hl ⊢
  have hl : lv_has ls 1 [(0, .int p0)] := hl
  refine lv_iload_n hx hb dX4_isCalledName_0 rfl (lv_at hl 0 rfl) ?_
  refine lv_iconst (v := 1) hx hb dX4_isCalledName_1 (by decide) ?_
  refine lv_icmp_lt (tgt := 15) hx hb dX4_isCalledName_2 (by decide) (fun c_1 => ?_) (fun c_1 => ?_)
  · simp only [pn_lt, pn_le, pn_eq, Int32.reduceToInt] at c_1
    refine lv_iconst (v := 0) hx hb dX4_isCalledName_15 (by decide) ?_
    exact W.zret (v := 0) (ty := .boolean) hx hb hr (by decide) (fun tz_ ht hW => ⟨⟨0, (), rfl, (Or.inr ⟨rfl, (by first | exact trivial | omega | (simp only [Int32.reduceToInt] at *; omega) | decide)⟩), trivial⟩, hS.F ht⟩) hS.2.2 dX4_isCalledName_16
  · simp only [pn_lt, pn_le, pn_eq, Int32.reduceToInt] at c_1
    refine lv_iload_n hx hb dX4_isCalledName_5 rfl (lv_at hl 0 rfl) ?_
    refine lv_bipush (v := 6) hx hb dX4_isCalledName_6 (by decide) ?_
    refine lv_icmp_ge (tgt := 15) hx hb dX4_isCalledName_8 (by decide) (fun c_2 => ?_) (fun c_2 => ?_)
    · simp only [pn_lt, pn_le, pn_eq, Int32.reduceToInt] at c_2
      refine lv_iconst (v := 0) hx hb dX4_isCalledName_15 (by decide) ?_
      exact W.zret (v := 0) (ty := .boolean) hx hb hr (by decide) (fun tz_ ht hW => ⟨⟨0, (), rfl, (Or.inr ⟨rfl, (by first | exact trivial | omega | (simp only [Int32.reduceToInt] at *; omega) | decide)⟩), trivial⟩, hS.F ht⟩) hS.2.2 dX4_isCalledName_16
    · simp only [pn_lt, pn_le, pn_eq, Int32.reduceToInt] at c_2
      refine lv_iconst (v := 1) hx hb dX4_isCalledName_11 (by decide) ?_
      refine lv_goto (tgt := 16) hx hb dX4_isCalledName_12 (by decide) ?_
      exact W.zret (v := 1) (ty := .boolean) hx hb hr (by decide) (fun tz_ ht hW => ⟨⟨1, (), rfl, (Or.inl ⟨rfl, (by first | exact trivial | omega | (simp only [Int32.reduceToInt] at *; omega) | decide)⟩), trivial⟩, hS.F ht⟩) hS.2.2 dX4_isCalledName_16
set_option maxHeartbeats 4000000 in
set_option maxRecDepth 100000 in
theorem c_X4_isField (l : Launch) (D : va_G) (cI cZ cJ cG : ClassId) (sz : Nat) (p0 : Int32) : Met l yX4_isField (pl_h yX4_isField cX4_isField 1 (some .boolean)) ({ frames := 0, cells := 0, slots := 0, locals := 0 }) (va_Pc [.int p0] (pn_B D (pn_Y cI cZ cJ cG) [] sz)) (va_Qi (fun (r : Int32) (u : Unit) => (r = 1 ∧ 0 ≤ p0.toInt ∧ p0.toInt ≤ 3) ∨ (r = 0 ∧ (p0.toInt < 0 ∨ 3 < p0.toInt))) (fun _ _ => True) (pn_N sz)) 0 0 (pn_N sz) := by
  refine Met.ofW (cc := cX4_isField) (maxL := 1) (ret := (some .boolean)) (by decide) rfl ?_
  intro p e s m args below meth c s₁ B hml hv
  obtain ⟨rfl, hsz, hP, hK⟩ := hv
  have hx := B.exec
  have hb := B.bytes
  have hr := B.returns
  have hts0 := atoms_spec (ws := pl_h yX4_isField cX4_isField 1 (some .boolean)) B.pre
  have hts := fun (w : Cond) (h : w ∈ pw_all) => hts0 w (List.mem_cons_of_mem _ h)
  have hown : s.vm.findClass RX4 = some m.cls := findClass_of_methodNamed B.named
  have hlocks := B.notSynchronized
  subst hsz
  have hA : ∀ q : Nat, s.heap.size ≤ q → pn_N s.heap.size q := fun q h => h
  have hS : va_S (pn_N s.heap.size) s.heap s.heap [] := va_S.rf
  have hl := lv_entry ([.int p0]) (n := 1) (Nat.le_of_ble_eq_true rfl)
  rw [lg_entry_eq]
  generalize (lg_sl ([.int p0]) ++ List.replicate (1 - (lg_sl ([.int p0])).length) Slot.unset).toArray = ls at hl ⊢
  have hl : lv_has ls 1 [(0, .int p0)] := hl
  refine lv_iload_n hx hb dX4_isField_0 rfl (lv_at hl 0 rfl) ?_
  refine lv_if_lt (tgt := 13) hx hb dX4_isField_1 (by decide) (fun c_1 => ?_) (fun c_1 => ?_)
  · simp only [pn_lt, pn_le, pn_eq, Int32.reduceToInt] at c_1
    refine lv_iconst (v := 0) hx hb dX4_isField_13 (by decide) ?_
    exact W.zret (v := 0) (ty := .boolean) hx hb hr (by decide) (fun tz_ ht hW => ⟨⟨0, (), rfl, (Or.inr ⟨rfl, (by first | exact trivial | omega | (simp only [Int32.reduceToInt] at *; omega) | decide)⟩), trivial⟩, hS.F ht⟩) hS.2.2 dX4_isField_14
  · simp only [pn_lt, pn_le, pn_eq, Int32.reduceToInt] at c_1
    refine lv_iload_n hx hb dX4_isField_4 rfl (lv_at hl 0 rfl) ?_
    refine lv_iconst (v := 4) hx hb dX4_isField_5 (by decide) ?_
    refine lv_icmp_ge (tgt := 13) hx hb dX4_isField_6 (by decide) (fun c_2 => ?_) (fun c_2 => ?_)
    · simp only [pn_lt, pn_le, pn_eq, Int32.reduceToInt] at c_2
      refine lv_iconst (v := 0) hx hb dX4_isField_13 (by decide) ?_
      exact W.zret (v := 0) (ty := .boolean) hx hb hr (by decide) (fun tz_ ht hW => ⟨⟨0, (), rfl, (Or.inr ⟨rfl, (by first | exact trivial | omega | (simp only [Int32.reduceToInt] at *; omega) | decide)⟩), trivial⟩, hS.F ht⟩) hS.2.2 dX4_isField_14
    · simp only [pn_lt, pn_le, pn_eq, Int32.reduceToInt] at c_2
      refine lv_iconst (v := 1) hx hb dX4_isField_9 (by decide) ?_
      refine lv_goto (tgt := 14) hx hb dX4_isField_10 (by decide) ?_
      exact W.zret (v := 1) (ty := .boolean) hx hb hr (by decide) (fun tz_ ht hW => ⟨⟨1, (), rfl, (Or.inl ⟨rfl, (by first | exact trivial | omega | (simp only [Int32.reduceToInt] at *; omega) | decide)⟩), trivial⟩, hS.F ht⟩) hS.2.2 dX4_isField_14
set_option maxHeartbeats 4000000 in
set_option maxRecDepth 100000 in
theorem c_X4_checkNumber (l : Launch) (D : va_G) (cI cZ cJ cG : ClassId) (sz : Nat) (p0 : Int32) (hst : l.stackTraces = false) : vx_Met l yX4_checkNumber (pl_h yX4_checkNumber cX4_checkNumber 1 none) ({ frames := 6, cells := 1, slots := 6, locals := 82 }) (va_Pc [.int p0] (pn_X D (pn_Y cI cZ cJ cG) [] (pn_N sz) sz)) (va_Qv (fun (u : Unit) => 0 ≤ p0.toInt ∧ p0.toInt ≤ 11) (fun _ _ => True) (pn_N sz)) (vx_X (fun _ : Unit => True) (fun E _ _ => (E = "java/lang/IndexOutOfBoundsException" ∧ (p0.toInt < 0 ∨ 11 < p0.toInt))) (pn_N sz)) 1 6 (pn_N sz) := by
  refine vx_ofW (cc := cX4_checkNumber) (maxL := 1) (ret := none) (by decide) rfl ?_
  intro p e s m args below meth c s₁ B hml hout hv
  obtain ⟨rfl, ⟨hsz, hP, hK, hD0⟩, hZ, hT⟩ := hv
  have hx := B.exec
  have hb := B.bytes
  have hr := B.returns
  have hts0 := atoms_spec (ws := pl_h yX4_checkNumber cX4_checkNumber 1 none) B.pre
  have hts := fun (w : Cond) (h : w ∈ pw_all) => hts0 w (List.mem_cons_of_mem _ h)
  have hown : s.vm.findClass RX4 = some m.cls := findClass_of_methodNamed B.named
  have hlocks := B.notSynchronized
  subst hsz
  have hA : ∀ q : Nat, s.heap.size ≤ q → pn_N s.heap.size q := fun q h => h
  have hS : va_S (pn_N s.heap.size) s.heap s.heap [] := va_S.rf
  have hD := hD0
  have hl := lv_entry ([.int p0]) (n := 1) (Nat.le_of_ble_eq_true rfl)
  rw [lg_entry_eq]
  generalize (lg_sl ([.int p0]) ++ List.replicate (1 - (lg_sl ([.int p0])).length) Slot.unset).toArray = ls at hl ⊢
  have hl : lv_has ls 1 [(0, .int p0)] := hl
  refine lv_iload_n hx hb dX4_checkNumber_0 rfl (lv_at hl 0 rfl) ?_
  have hPc := hP.sub (ws' := []) [] rfl
  refine pn_ci (va_runS (As := [.int p0]) (rest := []) ⟨hx, hb, hml, hown, hts⟩ (c_X4_isNumber l D cI cZ cJ cG s.heap.size p0) (va_cwS 1 hts (pl_S (pl_m 221 (by decide +kernel)) (pl_m 222 (by decide +kernel)) (pl_m 15 (by decide +kernel)) (pl_m 223 (by decide +kernel))) rfl rfl rfl (by decide +kernel) ⟨(Nat.le_of_ble_eq_true rfl), (Nat.le_of_ble_eq_true rfl)⟩) ⟨pn_B_blind, (pn_B_at hPc hK)⟩ rfl rfl hl.1 rfl (lv_room (Nat.le_of_ble_eq_true rfl)) dX4_checkNumber_1 ⟨(Nat.le_of_ble_eq_true rfl), (Nat.le_of_ble_eq_true rfl)⟩) hS hA hP (fun r_1 H locs hw hP hS => ?_)
  have hP : va_P D vwCl [] H := hP
  rcases hw with ⟨rfl, hw⟩ | ⟨rfl, hw⟩
  · try simp only [Int32.reduceToInt] at hw
    have hw_2 := hw
    refine lv_if_ne (tgt := 18) hx hb dX4_checkNumber_4 (by decide) (fun _ => ?_) (fun h9 => absurd h9 (by decide))
    refine vx_ret ?_
    refine W.widen (k := 1) (n := 6) (Nat.le_of_ble_eq_true rfl) (Nat.le_of_ble_eq_true rfl) ?_
    exact W.vret hx hb hr (fun tz_ ht hW => ⟨⟨(), rfl, (by first | exact trivial | omega | (simp only [Int32.reduceToInt] at *; omega) | decide), trivial⟩, hS.F ht⟩) hS.2.2 dX4_checkNumber_18
  · try simp only [Int32.reduceToInt] at hw
    have hw_3 := hw
    refine lv_if_ne (tgt := 18) hx hb dX4_checkNumber_4 (by decide) (fun h9 => absurd (by decide) h9) (fun _ => ?_)
    obtain ⟨sa_4, hstr_4⟩ := hT.2.1 (293, "a class is 0 to 11") (by decide +kernel)
    exact vx_throwSW (own := RX4) (cls := "java/lang/IndexOutOfBoundsException") (text := "a class is 0 to 11") (names := ["java/lang/RuntimeException", "java/lang/Exception"]) (ik := 120) (is := 293) (ic := 124) hx hb hst hown pn_fit.2.2.1 pn_fit.2.2.2 (hts (.classLink RX4 120 "java/lang/IndexOutOfBoundsException") (pl_m 165 (by decide +kernel))) (hts (.initialized "java/lang/IndexOutOfBoundsException") (pl_m 166 (by decide +kernel))) hstr_4 (pn_hat hts pl_x2 pn_hb3 hT) pn_hg3 hZ.1 hZ.2 hS (hl.1.trans hml.symm) dX4_checkNumber_7 dX4_checkNumber_10 dX4_checkNumber_11 dX4_checkNumber_14 dX4_checkNumber_17 (fun x h9 => (hout x h9).elim) (Nat.le_of_ble_eq_true rfl) (Nat.le_of_ble_eq_true rfl) (Nat.le_of_ble_eq_true rfl) (Nat.le_of_ble_eq_true rfl) hlocks (fun t _ h1 h2 => ⟨(), trivial, ⟨rfl, (by first | exact trivial | omega | (simp only [Int32.reduceToInt] at *; omega) | decide)⟩, pn_xF hS h1 h2⟩) hS.2.2 (Nat.le_of_ble_eq_true rfl) (Nat.le_of_ble_eq_true rfl)
set_option maxHeartbeats 4000000 in
set_option maxRecDepth 100000 in
theorem c_X4_checkNumberAndName (l : Launch) (D : va_G) (cI cZ cJ cG : ClassId) (sz : Nat) (p0 : Int32) (p1 : Int32) (hst : l.stackTraces = false) : vx_Met l yX4_checkNumberAndName (pl_h yX4_checkNumberAndName cX4_checkNumberAndName 2 none) ({ frames := 7, cells := 2, slots := 12, locals := 102 }) (va_Pc [.int p0, .int p1] (pn_X D (pn_Y cI cZ cJ cG) [] (pn_N sz) sz)) (va_Qv (fun (u : Unit) => 0 ≤ p0.toInt ∧ p0.toInt ≤ 11 ∧ 1 ≤ p1.toInt ∧ p1.toInt ≤ 5) (fun _ _ => True) (pn_N sz)) (vx_X (fun _ : Unit => True) (fun E _ _ => (E = "java/lang/IndexOutOfBoundsException" ∧ (p0.toInt < 0 ∨ 11 < p0.toInt ∨ p1.toInt < 1 ∨ 5 < p1.toInt))) (pn_N sz)) 2 12 (pn_N sz) := by
  refine vx_ofW (cc := cX4_checkNumberAndName) (maxL := 2) (ret := none) (by decide) rfl ?_
  intro p e s m args below meth c s₁ B hml hout hv
  obtain ⟨rfl, ⟨hsz, hP, hK, hD0⟩, hZ, hT⟩ := hv
  have hx := B.exec
  have hb := B.bytes
  have hr := B.returns
  have hts0 := atoms_spec (ws := pl_h yX4_checkNumberAndName cX4_checkNumberAndName 2 none) B.pre
  have hts := fun (w : Cond) (h : w ∈ pw_all) => hts0 w (List.mem_cons_of_mem _ h)
  have hown : s.vm.findClass RX4 = some m.cls := findClass_of_methodNamed B.named
  have hlocks := B.notSynchronized
  subst hsz
  have hA : ∀ q : Nat, s.heap.size ≤ q → pn_N s.heap.size q := fun q h => h
  have hS : va_S (pn_N s.heap.size) s.heap s.heap [] := va_S.rf
  have hD := hD0
  have hl := lv_entry ([.int p0, .int p1]) (n := 2) (Nat.le_of_ble_eq_true rfl)
  rw [lg_entry_eq]
  generalize (lg_sl ([.int p0, .int p1]) ++ List.replicate (2 - (lg_sl ([.int p0, .int p1])).length) Slot.unset).toArray = ls at hl ⊢
  have hl : lv_has ls 2 [(0, .int p0), (1, .int p1)] := hl
  refine lv_iload_n hx hb dX4_checkNumberAndName_0 rfl (lv_at hl 0 rfl) ?_
  have hPc := hP.sub (ws' := []) [] rfl
  have hDc := hD.sub (ws' := []) [] (by decide) rfl
  refine pn_xv (vx_runS (As := [.int p0]) (rest := []) ⟨hx, hb, hml, hown, hts⟩ (c_X4_checkNumber l D cI cZ cJ cG s.heap.size p0 hst) (va_cwS 1 hts (pl_S (pl_m 546 (by decide +kernel)) (pl_m 547 (by decide +kernel)) (pl_m 15 (by decide +kernel)) (pl_m 548 (by decide +kernel))) rfl rfl rfl (by decide +kernel) ⟨(Nat.le_of_ble_eq_true rfl), (Nat.le_of_ble_eq_true rfl)⟩) ⟨pn_X_blind, (pn_X_at hPc hDc hK hS hZ hT (fun q h => pn_NA hS hA q h))⟩ rfl rfl hl.1 rfl (lv_room (Nat.le_of_ble_eq_true rfl)) dX4_checkNumberAndName_1 ⟨(Nat.le_of_ble_eq_true rfl), (Nat.le_of_ble_eq_true rfl)⟩) hS hA hP (fun E ce q9 H locs hE hP hS h1 h2 h3 => ?_) (fun H locs hw hP hS => ?_)
  · refine pn_out (XE' := fun E => (E = "java/lang/IndexOutOfBoundsException" ∧ (p0.toInt < 0 ∨ 11 < p0.toInt ∨ p1.toInt < 1 ∨ 5 < p1.toInt))) hout hlocks hS ?_ h1 h2 h3 (Nat.le_of_ble_eq_true rfl) (Nat.le_of_ble_eq_true rfl)
    rcases hE with ⟨rfl, hE⟩
    · exact ⟨rfl, (by first | exact trivial | omega | (simp only [Int32.reduceToInt] at *; omega) | decide)⟩
  · have hP : va_P D vwCl [] H := hP
    refine W.widen (k := 1) (n := 6) (Nat.le_of_ble_eq_true rfl) (Nat.le_of_ble_eq_true rfl) ?_
    refine lv_iload_n hx hb dX4_checkNumberAndName_4 rfl (lv_at hl 1 rfl) ?_
    have hPc := hP.sub (ws' := []) [] rfl
    refine pn_ci (va_runS (As := [.int p1]) (rest := []) ⟨hx, hb, hml, hown, hts⟩ (c_X4_isCalledName l D cI cZ cJ cG H.size p1) (va_cwS 1 hts (pl_S (pl_m 218 (by decide +kernel)) (pl_m 219 (by decide +kernel)) (pl_m 15 (by decide +kernel)) (pl_m 220 (by decide +kernel))) rfl rfl rfl (by decide +kernel) ⟨(Nat.le_of_ble_eq_true rfl), (Nat.le_of_ble_eq_true rfl)⟩) ⟨pn_B_blind, (pn_B_at hPc hK)⟩ rfl rfl hl.1 rfl (lv_room (Nat.le_of_ble_eq_true rfl)) dX4_checkNumberAndName_5 ⟨(Nat.le_of_ble_eq_true rfl), (Nat.le_of_ble_eq_true rfl)⟩) hS hA hP (fun r_2 H locs hw hP hS => ?_)
    have hP : va_P D vwCl [] H := hP
    rcases hw with ⟨rfl, hw⟩ | ⟨rfl, hw⟩
    · try simp only [Int32.reduceToInt] at hw
      have hw_3 := hw
      refine lv_if_ne (tgt := 22) hx hb dX4_checkNumberAndName_8 (by decide) (fun _ => ?_) (fun h9 => absurd h9 (by decide))
      refine vx_ret ?_
      refine W.widen (k := 2) (n := 12) (Nat.le_of_ble_eq_true rfl) (Nat.le_of_ble_eq_true rfl) ?_
      exact W.vret hx hb hr (fun tz_ ht hW => ⟨⟨(), rfl, (by first | exact trivial | omega | (simp only [Int32.reduceToInt] at *; omega) | decide), trivial⟩, hS.F ht⟩) hS.2.2 dX4_checkNumberAndName_22
    · try simp only [Int32.reduceToInt] at hw
      have hw_4 := hw
      refine lv_if_ne (tgt := 22) hx hb dX4_checkNumberAndName_8 (by decide) (fun h9 => absurd (by decide) h9) (fun _ => ?_)
      obtain ⟨sa_5, hstr_5⟩ := hT.2.1 (298, "a name to run is 1 to 5") (by decide +kernel)
      exact vx_throwSW (own := RX4) (cls := "java/lang/IndexOutOfBoundsException") (text := "a name to run is 1 to 5") (names := ["java/lang/RuntimeException", "java/lang/Exception"]) (ik := 120) (is := 298) (ic := 124) hx hb hst hown pn_fit.2.2.1 pn_fit.2.2.2 (hts (.classLink RX4 120 "java/lang/IndexOutOfBoundsException") (pl_m 165 (by decide +kernel))) (hts (.initialized "java/lang/IndexOutOfBoundsException") (pl_m 166 (by decide +kernel))) hstr_5 (pn_hat hts pl_x2 pn_hb3 hT) pn_hg3 hZ.1 hZ.2 hS (hl.1.trans hml.symm) dX4_checkNumberAndName_11 dX4_checkNumberAndName_14 dX4_checkNumberAndName_15 dX4_checkNumberAndName_18 dX4_checkNumberAndName_21 (fun x h9 => (hout x h9).elim) (Nat.le_of_ble_eq_true rfl) (Nat.le_of_ble_eq_true rfl) (Nat.le_of_ble_eq_true rfl) (Nat.le_of_ble_eq_true rfl) hlocks (fun t _ h1 h2 => ⟨(), trivial, ⟨rfl, (by first | exact trivial | omega | (simp only [Int32.reduceToInt] at *; omega) | decide)⟩, pn_xF hS h1 h2⟩) hS.2.2 (Nat.le_of_ble_eq_true rfl) (Nat.le_of_ble_eq_true rfl)
set_option maxHeartbeats 4000000 in
set_option maxRecDepth 100000 in
theorem c_X4_checkInterfaces (l : Launch) (D : va_G) (cI cZ cJ cG : ClassId) (sz : Nat) (p0 : Int32) (hst : l.stackTraces = false) : vx_Met l yX4_checkInterfaces (pl_h yX4_checkInterfaces cX4_checkInterfaces 1 none) ({ frames := 6, cells := 1, slots := 6, locals := 82 }) (va_Pc [.int p0] (pn_X D (pn_Y cI cZ cJ cG) [] (pn_N sz) sz)) (va_Qv (fun (u : Unit) => 0 ≤ p0.toInt ∧ p0.toInt ≤ 4095) (fun _ _ => True) (pn_N sz)) (vx_X (fun _ : Unit => True) (fun E _ _ => (E = "java/lang/IllegalArgumentException" ∧ (p0.toInt < 0 ∨ 4095 < p0.toInt))) (pn_N sz)) 1 6 (pn_N sz) := by
  refine vx_ofW (cc := cX4_checkInterfaces) (maxL := 1) (ret := none) (by decide) rfl ?_
  intro p e s m args below meth c s₁ B hml hout hv
  obtain ⟨rfl, ⟨hsz, hP, hK, hD0⟩, hZ, hT⟩ := hv
  have hx := B.exec
  have hb := B.bytes
  have hr := B.returns
  have hts0 := atoms_spec (ws := pl_h yX4_checkInterfaces cX4_checkInterfaces 1 none) B.pre
  have hts := fun (w : Cond) (h : w ∈ pw_all) => hts0 w (List.mem_cons_of_mem _ h)
  have hown : s.vm.findClass RX4 = some m.cls := findClass_of_methodNamed B.named
  have hlocks := B.notSynchronized
  subst hsz
  have hA : ∀ q : Nat, s.heap.size ≤ q → pn_N s.heap.size q := fun q h => h
  have hS : va_S (pn_N s.heap.size) s.heap s.heap [] := va_S.rf
  have hD := hD0
  have hl := lv_entry ([.int p0]) (n := 1) (Nat.le_of_ble_eq_true rfl)
  rw [lg_entry_eq]
  generalize (lg_sl ([.int p0]) ++ List.replicate (1 - (lg_sl ([.int p0])).length) Slot.unset).toArray = ls at hl ⊢
  have hl : lv_has ls 1 [(0, .int p0)] := hl
  refine lv_iload_n hx hb dX4_checkInterfaces_0 rfl (lv_at hl 0 rfl) ?_
  refine lv_if_lt (tgt := 11) hx hb dX4_checkInterfaces_1 (by decide) (fun c_1 => ?_) (fun c_1 => ?_)
  · simp only [pn_lt, pn_le, pn_eq, Int32.reduceToInt] at c_1
    obtain ⟨sa_2, hstr_2⟩ := hT.2.1 (272, "no such set of interfaces") (by decide +kernel)
    exact vx_throwSW (own := RX4) (cls := "java/lang/IllegalArgumentException") (text := "no such set of interfaces") (names := ["java/lang/RuntimeException", "java/lang/Exception"]) (ik := 45) (is := 272) (ic := 49) hx hb hst hown pn_fit.1 pn_fit.2.2.2 (hts (.classLink RX4 45 "java/lang/IllegalArgumentException") (pl_m 135 (by decide +kernel))) (hts (.initialized "java/lang/IllegalArgumentException") (pl_m 136 (by decide +kernel))) hstr_2 (pn_hat hts pl_x0 pn_hb1 hT) pn_hg1 hZ.1 hZ.2 hS (hl.1.trans hml.symm) dX4_checkInterfaces_11 dX4_checkInterfaces_14 dX4_checkInterfaces_15 dX4_checkInterfaces_18 dX4_checkInterfaces_21 (fun x h9 => (hout x h9).elim) (Nat.le_of_ble_eq_true rfl) (Nat.le_of_ble_eq_true rfl) (Nat.le_of_ble_eq_true rfl) (Nat.le_of_ble_eq_true rfl) hlocks (fun t _ h1 h2 => ⟨(), trivial, ⟨rfl, (by first | exact trivial | omega | (simp only [Int32.reduceToInt] at *; omega) | decide)⟩, pn_xF hS h1 h2⟩) hS.2.2 (Nat.le_of_ble_eq_true rfl) (Nat.le_of_ble_eq_true rfl)
  · simp only [pn_lt, pn_le, pn_eq, Int32.reduceToInt] at c_1
    refine lv_iload_n hx hb dX4_checkInterfaces_4 rfl (lv_at hl 0 rfl) ?_
    refine lv_sipush (v := 4096) hx hb dX4_checkInterfaces_5 (by decide) ?_
    refine lv_icmp_lt (tgt := 22) hx hb dX4_checkInterfaces_8 (by decide) (fun c_3 => ?_) (fun c_3 => ?_)
    · simp only [pn_lt, pn_le, pn_eq, Int32.reduceToInt] at c_3
      refine vx_ret ?_
      refine W.widen (k := 1) (n := 6) (Nat.le_of_ble_eq_true rfl) (Nat.le_of_ble_eq_true rfl) ?_
      exact W.vret hx hb hr (fun tz_ ht hW => ⟨⟨(), rfl, (by first | exact trivial | omega | (simp only [Int32.reduceToInt] at *; omega) | decide), trivial⟩, hS.F ht⟩) hS.2.2 dX4_checkInterfaces_22
    · simp only [pn_lt, pn_le, pn_eq, Int32.reduceToInt] at c_3
      obtain ⟨sa_4, hstr_4⟩ := hT.2.1 (272, "no such set of interfaces") (by decide +kernel)
      exact vx_throwSW (own := RX4) (cls := "java/lang/IllegalArgumentException") (text := "no such set of interfaces") (names := ["java/lang/RuntimeException", "java/lang/Exception"]) (ik := 45) (is := 272) (ic := 49) hx hb hst hown pn_fit.1 pn_fit.2.2.2 (hts (.classLink RX4 45 "java/lang/IllegalArgumentException") (pl_m 135 (by decide +kernel))) (hts (.initialized "java/lang/IllegalArgumentException") (pl_m 136 (by decide +kernel))) hstr_4 (pn_hat hts pl_x0 pn_hb1 hT) pn_hg1 hZ.1 hZ.2 hS (hl.1.trans hml.symm) dX4_checkInterfaces_11 dX4_checkInterfaces_14 dX4_checkInterfaces_15 dX4_checkInterfaces_18 dX4_checkInterfaces_21 (fun x h9 => (hout x h9).elim) (Nat.le_of_ble_eq_true rfl) (Nat.le_of_ble_eq_true rfl) (Nat.le_of_ble_eq_true rfl) (Nat.le_of_ble_eq_true rfl) hlocks (fun t _ h1 h2 => ⟨(), trivial, ⟨rfl, (by first | exact trivial | omega | (simp only [Int32.reduceToInt] at *; omega) | decide)⟩, pn_xF hS h1 h2⟩) hS.2.2 (Nat.le_of_ble_eq_true rfl) (Nat.le_of_ble_eq_true rfl)
