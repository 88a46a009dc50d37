theorem dX4_isCalledName_0 : decode cX4_isCalledName 0 = .ok (.iload_n 0, 1) := by decide +kernel
theorem dX4_isCalledName_1 : decode cX4_isCalledName 1 = .ok (.iconst 1, 1) := by decide +kernel
theorem dX4_isCalledName_2 : decode cX4_isCalledName 2 = .ok (.if_icmp .lt 13, 3) := by decide +kernel
theorem dX4_isCalledName_5 : decode cX4_isCalledName 5 = .ok (.iload_n 0, 1) := by decide +kernel
theorem dX4_isCalledName_6 : decode cX4_isCalledName 6 = .ok (.bipush 6, 2) := by decide +kernel
theorem dX4_isCalledName_8 : decode cX4_isCalledName 8 = .ok (.if_icmp .ge 7, 3) := by decide +kernel
theorem dX4_isCalledName_11 : decode cX4_isCalledName 11 = .ok (.iconst 1, 1) := by decide +kernel
theorem dX4_isCalledName_12 : decode cX4_isCalledName 12 = .ok (.goto 4, 3) := by decide +kernel
theorem dX4_isCalledName_15 : decode cX4_isCalledName 15 = .ok (.iconst 0, 1) := by decide +kernel
theorem dX4_isCalledName_16 : decode cX4_isCalledName 16 = .ok (.ireturn, 1) := by decide +kernel
theorem dX4_isNumber_0 : decode cX4_isNumber 0 = .ok (.iload_n 0, 1) := by decide +kernel
theorem dX4_isNumber_1 : decode cX4_isNumber 1 = .ok (.ifCond .lt 13, 3) := by decide +kernel
theorem dX4_isNumber_4 : decode cX4_isNumber 4 = .ok (.iload_n 0, 1) := by decide +kernel
theorem dX4_isNumber_5 : decode cX4_isNumber 5 = .ok (.bipush 12, 2) := by decide +kernel
theorem dX4_isNumber_7 : decode cX4_isNumber 7 = .ok (.if_icmp .ge 7, 3) := by decide +kernel
theorem dX4_isNumber_10 : decode cX4_isNumber 10 = .ok (.iconst 1, 1) := by decide +kernel
theorem dX4_isNumber_11 : decode cX4_isNumber 11 = .ok (.goto 4, 3) := by decide +kernel
theorem dX4_isNumber_14 : decode cX4_isNumber 14 = .ok (.iconst 0, 1) := by decide +kernel
theorem dX4_isNumber_15 : decode cX4_isNumber 15 = .ok (.ireturn, 1) := by decide +kernel
theorem dX5_isAny_0 : decode cX5_isAny 0 = .ok (.iload_n 0, 1) := by decide +kernel
theorem dX5_isAny_1 : decode cX5_isAny 1 = .ok (.iconst 0, 1) := by decide +kernel
theorem dX5_isAny_2 : decode cX5_isAny 2 = .ok (.bipush 11, 2) := by decide +kernel
theorem dX5_isAny_4 : decode cX5_isAny 4 = .ok (.invokestatic 87, 3) := by decide +kernel
theorem dX5_isAny_7 : decode cX5_isAny 7 = .ok (.ireturn, 1) := by decide +kernel
theorem dX5_isCalled_0 : decode cX5_isCalled 0 = .ok (.iload_n 0, 1) := by decide +kernel
theorem dX5_isCalled_1 : decode cX5_isCalled 1 = .ok (.iconst 1, 1) := by decide +kernel
theorem dX5_isCalled_2 : decode cX5_isCalled 2 = .ok (.iconst 5, 1) := by decide +kernel
theorem dX5_isCalled_3 : decode cX5_isCalled 3 = .ok (.invokestatic 87, 3) := by decide +kernel
theorem dX5_isCalled_6 : decode cX5_isCalled 6 = .ok (.ireturn, 1) := by decide +kernel
theorem dX5_isIn_0 : decode cX5_isIn 0 = .ok (.iload_n 0, 1) := by decide +kernel
theorem dX5_isIn_1 : decode cX5_isIn 1 = .ok (.iload_n 1, 1) := by decide +kernel
theorem dX5_isIn_2 : decode cX5_isIn 2 = .ok (.if_icmp .lt 12, 3) := by decide +kernel
theorem dX5_isIn_5 : decode cX5_isIn 5 = .ok (.iload_n 0, 1) := by decide +kernel
theorem dX5_isIn_6 : decode cX5_isIn 6 = .ok (.iload_n 2, 1) := by decide +kernel
theorem dX5_isIn_7 : decode cX5_isIn 7 = .ok (.if_icmp .gt 7, 3) := by decide +kernel
theorem dX5_isIn_10 : decode cX5_isIn 10 = .ok (.iconst 1, 1) := by decide +kernel
theorem dX5_isIn_11 : decode cX5_isIn 11 = .ok (.goto 4, 3) := by decide +kernel
theorem dX5_isIn_14 : decode cX5_isIn 14 = .ok (.iconst 0, 1) := by decide +kernel
theorem dX5_isIn_15 : decode cX5_isIn 15 = .ok (.ireturn, 1) := by decide +kernel
set_option maxHeartbeats 4000000 in
set_option maxRecDepth 100000 in
theorem c_X4_isNumber (l : Launch) (D : va_G) (cI cZ cJ cG : ClassId) (sz : Nat) (p0 : Int32) : Met l yX4_isNumber (pl_h yX4_isNumber cX4_isNumber 1 (some .boolean)) ({ frames := 0, cells := 0, slots := 0, locals := 0 }) (va_Pc [.int p0] (pn_B D (pn_Y cI cZ cJ cG) [] sz)) (va_Qi (fun (r : Int32) (u : Unit) => (r = 1 ∧ 0 ≤ p0.toInt ∧ p0.toInt ≤ 11) ∨ (r = 0 ∧ (p0.toInt < 0 ∨ 11 < p0.toInt))) (fun _ _ => True) (pn_N sz)) 0 0 (pn_N sz) := by
  refine Met.ofW (cc := cX4_isNumber) (maxL := 1) (ret := (some .boolean)) (by decide) rfl ?_
  intro p e s m args below meth c s₁ B hml hv
  obtain ⟨rfl, hsz, hP, hK⟩ := hv
  have hx := B.exec
  have hb := B.bytes
  have hr := B.returns
  have hts0 := atoms_spec (ws := pl_h yX4_isNumber cX4_isNumber 1 (some .boolean)) B.pre
  have hts := fun (w : Cond) (h : w ∈ pw_all) => hts0 w (List.mem_cons_of_mem _ h)
  have hown : s.vm.findClass RX4 = some m.cls := findClass_of_methodNamed B.named
  have hlocks := B.notSynchronized
  subst hsz
  have hA : ∀ q : Nat, s.heap.size ≤ q → pn_N s.heap.size q := fun q h => h
  have hS : va_S (pn_N s.heap.size) s.heap s.heap [] := va_S.rf
  have hl := lv_entry ([.int p0]) (n := 1) (Nat.le_of_ble_eq_true rfl)
  rw [lg_entry_eq]
  generalize (lg_sl ([.int p0]) ++ List.replicate (1 - (lg_sl ([.int p0])).length) Slot.unset).toArray = ls at hl ⊢
  have hl : lv_has ls 1 [(0, .int p0)] := hl
  refine lv_iload_n hx hb dX4_isNumber_0 rfl (lv_at hl 0 rfl) ?_
  refine lv_if_lt (tgt := 14) hx hb dX4_isNumber_1 (by decide) (fun c_1 => ?_) (fun c_1 => ?_)
  · simp only [pn_lt, pn_le, pn_eq, Int32.reduceToInt] at c_1
    refine lv_iconst (v := 0) hx hb dX4_isNumber_14 (by decide) ?_
    exact W.zret (v := 0) (ty := .boolean) hx hb hr (by decide) (fun tz_ ht hW => ⟨⟨0, (), rfl, (Or.inr ⟨rfl, (by first | exact trivial | omega | (simp only [Int32.reduceToInt] at *; omega) | decide)⟩), trivial⟩, hS.F ht⟩) hS.2.2 dX4_isNumber_15
  · simp only [pn_lt, pn_le, pn_eq, Int32.reduceToInt] at c_1
    refine lv_iload_n hx hb dX4_isNumber_4 rfl (lv_at hl 0 rfl) ?_
    refine lv_bipush (v := 12) hx hb dX4_isNumber_5 (by decide) ?_
    refine lv_icmp_ge (tgt := 14) hx hb dX4_isNumber_7 (by decide) (fun c_2 => ?_) (fun c_2 => ?_)
    · simp only [pn_lt, pn_le, pn_eq, Int32.reduceToInt] at c_2
      refine lv_iconst (v := 0) hx hb dX4_isNumber_14 (by decide) ?_
      exact W.zret (v := 0) (ty := .boolean) hx hb hr (by decide) (fun tz_ ht hW => ⟨⟨0, (), rfl, (Or.inr ⟨rfl, (by first | exact trivial | omega | (simp only [Int32.reduceToInt] at *; omega) | decide)⟩), trivial⟩, hS.F ht⟩) hS.2.2 dX4_isNumber_15
    · simp only [pn_lt, pn_le, pn_eq, Int32.reduceToInt] at c_2
      refine lv_iconst (v := 1) hx hb dX4_isNumber_10 (by decide) ?_
      refine lv_goto (tgt := 15) hx hb dX4_isNumber_11 (by decide) ?_
      exact W.zret (v := 1) (ty := .boolean) hx hb hr (by decide) (fun tz_ ht hW => ⟨⟨1, (), rfl, (Or.inl ⟨rfl, (by first | exact trivial | omega | (simp only [Int32.reduceToInt] at *; omega) | decide)⟩), trivial⟩, hS.F ht⟩) hS.2.2 dX4_isNumber_15
set_option maxHeartbeats 4000000 in
set_option maxRecDepth 100000 in
theorem c_X4_isCalledName (l : Launch) (D : va_G) (cI cZ cJ cG : ClassId) (sz : Nat) (p0 : Int32) : Met l yX4_isCalledName (pl_h yX4_isCalledName cX4_isCalledName 1 (some .boolean)) ({ frames := 0, cells := 0, slots := 0, locals := 0 }) (va_Pc [.int p0] (pn_B D (pn_Y cI cZ cJ cG) [] sz)) (va_Qi (fun (r : Int32) (u : Unit) => (r = 1 ∧ 1 ≤ p0.toInt ∧ p0.toInt ≤ 5) ∨ (r = 0 ∧ (p0.toInt < 1 ∨ 5 < p0.toInt))) (fun _ _ => True) (pn_N sz)) 0 0 (pn_N sz) := by
  refine Met.ofW (cc := cX4_isCalledName) (maxL := 1) (ret := (some .boolean)) (by decide) rfl ?_
  intro p e s m args below meth c s₁ B hml hv
  obtain ⟨rfl, hsz, hP, hK⟩ := hv
  have hx := B.exec
  have hb := B.bytes
  have hr := B.returns
  have hts0 := atoms_spec (ws := pl_h yX4_isCalledName cX4_isCalledName 1 (some .boolean)) B.pre
  have hts := fun (w : Cond) (h : w ∈ pw_all) => hts0 w (List.mem_cons_of_mem _ h)
  have hown : s.vm.findClass RX4 = some m.cls := findClass_of_methodNamed B.named
  have hlocks := B.notSynchronized
  subst hsz
  have hA : ∀ q : Nat, s.heap.size ≤ q → pn_N s.heap.size q := fun q h => h
  have hS : va_S (pn_N s.heap.size) s.heap s.heap [] := va_S.rf
  have hl := lv_entry ([.int p0]) (n := 1) (Nat.le_of_ble_eq_true rfl)
  rw [lg_entry_eq]
  generalize (lg_sl ([.int p0]) ++ List.replicate (1 - (lg_sl ([.int p0])).length) Slot.unset).toArray = ls at hl ⊢
  have hl : lv_has ls 1 [(0, .int p0)] := hl
  refine lv_iload_n hx hb dX4_isCalledName_0 rfl (lv_at hl 0 rfl) ?_
  refine lv_iconst (v := 1) hx hb dX4_isCalledName_1 (by decide) ?_
  refine lv_icmp_lt (tgt := 15) hx hb dX4_isCalledName_2 (by decide) (fun c_1 => ?_) (fun c_1 => ?_)
  · simp only [pn_lt, pn_le, pn_eq, Int32.reduceToInt] at c_1
    refine lv_iconst (v := 0) hx hb dX4_isCalledName_15 (by decide) ?_
    exact W.zret (v := 0) (ty := .boolean) hx hb hr (by decide) (fun tz_ ht hW => ⟨⟨0, (), rfl, (Or.inr ⟨rfl, (by first | exact trivial | omega | (simp only [Int32.reduceToInt] at *; omega) | decide)⟩), trivial⟩, hS.F ht⟩) hS.2.2 dX4_isCalledName_16
  · simp only [pn_lt, pn_le, pn_eq, Int32.reduceToInt] at c_1
    refine lv_iload_n hx hb dX4_isCalledName_5 rfl (lv_at hl 0 rfl) ?_
    refine lv_bipush (v := 6) hx hb dX4_isCalledName_6 (by decide) ?_
    refine lv_icmp_ge (tgt := 15) hx hb dX4_isCalledName_8 (by decide) (fun c_2 => ?_) (fun c_2 => ?_)
    · simp only [pn_lt, pn_le, pn_eq, Int32.reduceToInt] at c_2
      refine lv_iconst (v := 0) hx hb dX4_isCalledName_15 (by decide) ?_
      exact W.zret (v := 0) (ty := .boolean) hx hb hr (by decide) (fun tz_ ht hW => ⟨⟨0, (), rfl, (Or.inr ⟨rfl, (by first | exact trivial | omega | (simp only [Int32.reduceToInt] at *; omega) | decide)⟩), trivial⟩, hS.F ht⟩) hS.2.2 dX4_isCalledName_16
    · simp only [pn_lt, pn_le, pn_eq, Int32.reduceToInt] at c_2
      refine lv_iconst (v := 1) hx hb dX4_isCalledName_11 (by decide) ?_
      refine lv_goto (tgt := 16) hx hb dX4_isCalledName_12 (by decide) ?_
      exact W.zret (v := 1) (ty := .boolean) hx hb hr (by decide) (fun tz_ ht hW => ⟨⟨1, (), rfl, (Or.inl ⟨rfl, (by first | exact trivial | omega | (simp only [Int32.reduceToInt] at *; omega) | decide)⟩), trivial⟩, hS.F ht⟩) hS.2.2 dX4_isCalledName_16
set_option maxHeartbeats 4000000 in
set_option maxRecDepth 100000 in
theorem c_X5_isIn (l : Launch) (D : va_G) (cI cZ cJ cG : ClassId) (sz : Nat) (p0 : Int32) (p1 : Int32) (p2 : Int32) : Met l yX5_isIn (pl_h yX5_isIn cX5_isIn 3 (some .boolean)) ({ frames := 0, cells := 0, slots := 0, locals := 0 }) (va_Pc [.int p0, .int p1, .int p2] (pn_B D (pn_Y cI cZ cJ cG) [] sz)) (va_Qi (fun (r : Int32) (u : Unit) => (r = 1 ∧ (p1.toInt ≤ p0.toInt ∧ p0.toInt ≤ p2.toInt)) ∨ (r = 0 ∧ (p0.toInt < p1.toInt ∨ p2.toInt < p0.toInt))) (fun _ _ => True) (pn_N sz)) 0 0 (pn_N sz) := by
  refine Met.ofW (cc := cX5_isIn) (maxL := 3) (ret := (some .boolean)) (by decide) rfl ?_
  intro p e s m args below meth c s₁ B hml hv
  obtain ⟨rfl, hsz, hP, hK⟩ := hv
  have hx := B.exec
  have hb := B.bytes
  have hr := B.returns
  have hts0 := atoms_spec (ws := pl_h yX5_isIn cX5_isIn 3 (some .boolean)) B.pre
  have hts := fun (w : Cond) (h : w ∈ pw_all) => hts0 w (List.mem_cons_of_mem _ h)
  have hown : s.vm.findClass RX5 = some m.cls := findClass_of_methodNamed B.named
  have hlocks := B.notSynchronized
  subst hsz
  have hA : ∀ q : Nat, s.heap.size ≤ q → pn_N s.heap.size q := fun q h => h
  have hS : va_S (pn_N s.heap.size) s.heap s.heap [] := va_S.rf
  have hl := lv_entry ([.int p0, .int p1, .int p2]) (n := 3) (Nat.le_of_ble_eq_true rfl)
  rw [lg_entry_eq]
  generalize (lg_sl ([.int p0, .int p1, .int p2]) ++ List.replicate (3 - (lg_sl ([.int p0, .int p1, .int p2])).length) Slot.unset).toArray = ls at hl ⊢
  have hl : lv_has ls 3 [(0, .int p0), (1, .int p1), (2, .int p2)] := hl
  refine lv_iload_n hx hb dX5_isIn_0 rfl (lv_at hl 0 rfl) ?_
  refine lv_iload_n hx hb dX5_isIn_1 rfl (lv_at hl 1 rfl) ?_
  refine lv_icmp_lt (tgt := 14) hx hb dX5_isIn_2 (by decide) (fun c_1 => ?_) (fun c_1 => ?_)
  · simp only [pn_lt, pn_le, pn_eq, Int32.reduceToInt] at c_1
    refine lv_iconst (v := 0) hx hb dX5_isIn_14 (by decide) ?_
    exact W.zret (v := 0) (ty := .boolean) hx hb hr (by decide) (fun tz_ ht hW => ⟨⟨0, (), rfl, (Or.inr ⟨rfl, (by first | exact trivial | omega | (simp only [Int32.reduceToInt] at *; omega) | decide)⟩), trivial⟩, hS.F ht⟩) hS.2.2 dX5_isIn_15
  · simp only [pn_lt, pn_le, pn_eq, Int32.reduceToInt] at c_1
    refine lv_iload_n hx hb dX5_isIn_5 rfl (lv_at hl 0 rfl) ?_
    refine lv_iload_n hx hb dX5_isIn_6 rfl (lv_at hl 2 rfl) ?_
    refine lv_icmp_gt (tgt := 14) hx hb dX5_isIn_7 (by decide) (fun c_2 => ?_) (fun c_2 => ?_)
    · simp only [pn_lt, pn_le, pn_eq, Int32.reduceToInt] at c_2
      refine lv_iconst (v := 0) hx hb dX5_isIn_14 (by decide) ?_
      exact W.zret (v := 0) (ty := .boolean) hx hb hr (by decide) (fun tz_ ht hW => ⟨⟨0, (), rfl, (Or.inr ⟨rfl, (by first | exact trivial | omega | (simp only [Int32.reduceToInt] at *; omega) | decide)⟩), trivial⟩, hS.F ht⟩) hS.2.2 dX5_isIn_15
    · simp only [pn_lt, pn_le, pn_eq, Int32.reduceToInt] at c_2
      refine lv_iconst (v := 1) hx hb dX5_isIn_10 (by decide) ?_
      refine lv_goto (tgt := 15) hx hb dX5_isIn_11 (by decide) ?_
      exact W.zret (v := 1) (ty := .boolean) hx hb hr (by decide) (fun tz_ ht hW => ⟨⟨1, (), rfl, (Or.inl ⟨rfl, (by first | exact trivial | omega | (simp only [Int32.reduceToInt] at *; omega) | decide)⟩), trivial⟩, hS.F ht⟩) hS.2.2 dX5_isIn_15
set_option maxHeartbeats 4000000 in
set_option maxRecDepth 100000 in
theorem c_X5_isAny (l : Launch) (D : va_G) (cI cZ cJ cG : ClassId) (sz : Nat) (p0 : Int32) : Met l yX5_isAny (pl_h yX5_isAny cX5_isAny 1 (some .boolean)) ({ frames := 1, cells := 0, slots := 0, locals := 22 }) (va_Pc [.int p0] (pn_B D (pn_Y cI cZ cJ cG) [] sz)) (va_Qi (fun (r : Int32) (u : Unit) => (r = 1 ∧ 0 ≤ p0.toInt ∧ p0.toInt ≤ 11) ∨ (r = 0 ∧ (p0.toInt < 0 ∨ 11 < p0.toInt))) (fun _ _ => True) (pn_N sz)) 0 0 (pn_N sz) := by
  refine Met.ofW (cc := cX5_isAny) (maxL := 1) (ret := (some .boolean)) (by decide) rfl ?_
  intro p e s m args below meth c s₁ B hml hv
  obtain ⟨rfl, hsz, hP, hK⟩ := hv
  have hx := B.exec
  have hb := B.bytes
  have hr := B.returns
  have hts0 := atoms_spec (ws := pl_h yX5_isAny cX5_isAny 1 (some .boolean)) B.pre
  have hts := fun (w : Cond) (h : w ∈ pw_all) => hts0 w (List.mem_cons_of_mem _ h)
  have hown : s.vm.findClass RX5 = some m.cls := findClass_of_methodNamed B.named
  have hlocks := B.notSynchronized
  subst hsz
  have hA : ∀ q : Nat, s.heap.size ≤ q → pn_N s.heap.size q := fun q h => h
  have hS : va_S (pn_N s.heap.size) s.heap s.heap [] := va_S.rf
  have hl := lv_entry ([.int p0]) (n := 1) (Nat.le_of_ble_eq_true rfl)
  rw [lg_entry_eq]
  generalize (lg_sl ([.int p0]) ++ List.replicate (1 - (lg_sl ([.int p0])).length) Slot.unset).toArray = ls at hl ⊢
  have hl : lv_has ls 1 [(0, .int p0)] := hl
  refine lv_iload_n hx hb dX5_isAny_0 rfl (lv_at hl 0 rfl) ?_
  refine lv_iconst (v := 0) hx hb dX5_isAny_1 (by decide) ?_
  refine lv_bipush (v := 11) hx hb dX5_isAny_2 (by decide) ?_
  have hPc := hP.sub (ws' := []) [] rfl
  refine pn_ci (va_runS (As := [.int p0, .int 0, .int 11]) (rest := []) ⟨hx, hb, hml, hown, hts⟩ (c_X5_isIn l D cI cZ cJ cG s.heap.size p0 0 11) (va_cwS 3 hts (pl_S (pl_m 139 (by decide +kernel)) (pl_m 140 (by decide +kernel)) (pl_m 5 (by decide +kernel)) (pl_m 141 (by decide +kernel))) rfl rfl rfl (by decide +kernel) ⟨(Nat.le_of_ble_eq_true rfl), (Nat.le_of_ble_eq_true rfl)⟩) ⟨pn_B_blind, (pn_B_at hPc hK)⟩ rfl rfl hl.1 rfl (lv_room (Nat.le_of_ble_eq_true rfl)) dX5_isAny_4 ⟨(Nat.le_of_ble_eq_true rfl), (Nat.le_of_ble_eq_true rfl)⟩) hS hA hP (fun r_1 H locs hw hP hS => ?_)
  have hP : va_P D vwCl [] H := hP
  rcases hw with ⟨rfl, hw⟩ | ⟨rfl, hw⟩
  · try simp only [Int32.reduceToInt] at hw
    have hw_2 := hw
    exact W.zret (v := 1) (ty := .boolean) hx hb hr (by decide) (fun tz_ ht hW => ⟨⟨1, (), rfl, (Or.inl ⟨rfl, (by first | exact trivial | omega | (simp only [Int32.reduceToInt] at *; omega) | decide)⟩), trivial⟩, hS.F ht⟩) hS.2.2 dX5_isAny_7
  · try simp only [Int32.reduceToInt] at hw
    have hw_3 := hw
    exact W.zret (v := 0) (ty := .boolean) hx hb hr (by decide) (fun tz_ ht hW => ⟨⟨0, (), rfl, (Or.inr ⟨rfl, (by first | exact trivial | omega | (simp only [Int32.reduceToInt] at *; omega) | decide)⟩), trivial⟩, hS.F ht⟩) hS.2.2 dX5_isAny_7
set_option maxHeartbeats 4000000 in
set_option maxRecDepth 100000 in
theorem c_X5_isCalled (l : Launch) (D : va_G) (cI cZ cJ cG : ClassId) (sz : Nat) (p0 : Int32) : Met l yX5_isCalled (pl_h yX5_isCalled cX5_isCalled 1 (some .boolean)) ({ frames := 1, cells := 0, slots := 0, locals := 22 }) (va_Pc [.int p0] (pn_B D (pn_Y cI cZ cJ cG) [] sz)) (va_Qi (fun (r : Int32) (u : Unit) => (r = 1 ∧ 1 ≤ p0.toInt ∧ p0.toInt ≤ 5) ∨ (r = 0 ∧ (p0.toInt < 1 ∨ 5 < p0.toInt))) (fun _ _ => True) (pn_N sz)) 0 0 (pn_N sz) := by
  refine Met.ofW (cc := cX5_isCalled) (maxL := 1) (ret := (some .boolean)) (by decide) rfl ?_
  intro p e s m args below meth c s₁ B hml hv
  obtain ⟨rfl, hsz, hP, hK⟩ := hv
  have hx := B.exec
  have hb := B.bytes
  have hr := B.returns
  have hts0 := atoms_spec (ws := pl_h yX5_isCalled cX5_isCalled 1 (some .boolean)) B.pre
  have hts := fun (w : Cond) (h : w ∈ pw_all) => hts0 w (List.mem_cons_of_mem _ h)
  have hown : s.vm.findClass RX5 = some m.cls := findClass_of_methodNamed B.named
  have hlocks := B.notSynchronized
  subst hsz
  have hA : ∀ q : Nat, s.heap.size ≤ q → pn_N s.heap.size q := fun q h => h
  have hS : va_S (pn_N s.heap.size) s.heap s.heap [] := va_S.rf
  have hl := lv_entry ([.int p0]) (n := 1) (Nat.le_of_ble_eq_true rfl)
  rw [lg_entry_eq]
  generalize (lg_sl ([.int p0]) ++ List.replicate (1 - (lg_sl ([.int p0])).length) Slot.unset).toArray = ls at hl ⊢
  have hl : lv_has ls 1 [(0, .int p0)] := hl
  refine lv_iload_n hx hb dX5_isCalled_0 rfl (lv_at hl 0 rfl) ?_
  refine lv_iconst (v := 1) hx hb dX5_isCalled_1 (by decide) ?_
  refine lv_iconst (v := 5) hx hb dX5_isCalled_2 (by decide) ?_
  have hPc := hP.sub (ws' := []) [] rfl
  refine pn_ci (va_runS (As := [.int p0, .int 1, .int 5]) (rest := []) ⟨hx, hb, hml, hown, hts⟩ (c_X5_isIn l D cI cZ cJ cG s.heap.size p0 1 5) (va_cwS 3 hts (pl_S (pl_m 139 (by decide +kernel)) (pl_m 140 (by decide +kernel)) (pl_m 5 (by decide +kernel)) (pl_m 141 (by decide +kernel))) rfl rfl rfl (by decide +kernel) ⟨(Nat.le_of_ble_eq_true rfl), (Nat.le_of_ble_eq_true rfl)⟩) ⟨pn_B_blind, (pn_B_at hPc hK)⟩ rfl rfl hl.1 rfl (lv_room (Nat.le_of_ble_eq_true rfl)) dX5_isCalled_3 ⟨(Nat.le_of_ble_eq_true rfl), (Nat.le_of_ble_eq_true rfl)⟩) hS hA hP (fun r_1 H locs hw hP hS => ?_)
  have hP : va_P D vwCl [] H := hP
  rcases hw with ⟨rfl, hw⟩ | ⟨rfl, hw⟩
  · try simp only [Int32.reduceToInt] at hw
    have hw_2 := hw
    exact W.zret (v := 1) (ty := .boolean) hx hb hr (by decide) (fun tz_ ht hW => ⟨⟨1, (), rfl, (Or.inl ⟨rfl, (by first | exact trivial | omega | (simp only [Int32.reduceToInt] at *; omega) | decide)⟩), trivial⟩, hS.F ht⟩) hS.2.2 dX5_isCalled_6
  · try simp only [Int32.reduceToInt] at hw
    have hw_3 := hw
    exact W.zret (v := 0) (ty := .boolean) hx hb hr (by decide) (fun tz_ ht hW => ⟨⟨0, (), rfl, (Or.inr ⟨rfl, (by first | exact trivial | omega | (simp only [Int32.reduceToInt] at *; omega) | decide)⟩), trivial⟩, hS.F ht⟩) hS.2.2 dX5_isCalled_6
