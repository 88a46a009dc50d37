
/-! THE CLAIM OUT OF ONE WALK OF THE LAW'S BODY. Your part is whole_start (and what it stands on); all else here is the same for every law, but numbers. -/
def R_law : String := "VtableTownLaw"
def lw_P (b : Addr) (xs : List Int32) (args : Array Value) (s : State) : Prop := args = #[.ref b] ∧ s.IntsAt b xs ∧ xs.length ≤ 6 ∧ (Jvm.Cond.and given_1 narrow_1).before args s = true
/-- what a walk over the start with the record d0 says of its end, said of the start itself -/
theorem lw_closed {s t : State} {o : Outcome} {d0 : Drawn} {L : List Loc} {k n : Nat} (hd0 : s.drawn.sameBut d0 lw_cs) (hv : ∃ v, o = .returned v) (hW : (s.setDrawn d0).WarmedH t.vm) (hs : (s.setDrawn d0).sameButNew ({ t with vm := s.vm } : State) L k n) : State.butDraws s t lw_cs (fun t1 => Framed s o t1 L k n) := by
  have h2 : t.drawn = d0 := congrArg State.drawn hs.1
  refine ⟨⟨hv, hW, State.sameButNew.setDrawn hs s.drawn⟩, ?_, by decide⟩
  rw [h2]
  exact hd0
def lw_Q (_ : Array Value) (s : State) (o : Outcome) (t : State) : Prop := o = .returned (some (.int 1)) ∧ State.butDraws s t lw_cs (fun t1 => Framed s o t1 [] 600002 7302232)
def lw_Z (below : List Frame) (a : Array Value) (s : State) : State → Prop := fun t => ∃ o, t.status = .running ∧ Ended t below o ∧ lw_Q a s o t
/-- the law's own end, with 1 on the stack, nothing written that was there before, its room as the claim has it; d0: the record of draws at this point (at the entry s.drawn: begin with 'refine W.base ?_' and 'have hd0 := Drawn.sameBut.refl s.drawn lw_cs') -/
theorem lw_ret {p : Program} {l : Launch} {e : Env} {s : State} {m : MethodId} {below : List Frame} {meth : Method} {c : Code} {b : Nat} {d0 : Drawn} (hd0 : s.drawn.sameBut d0 lw_cs) (hx : p.tables.exec = Jvm.exec) (hb : c.code = code) (hr : meth.sig.returnType = ret) (hlocks : meth.locks = false) {pc : Nat} {H : Heap} {ls : Array Slot} (hdg : decode code pc = .ok (.ireturn, 1)) : W p l e room_1 (s.setDrawn d0) m #[Value.ref b] below meth c H [] 600002 7302232 (lw_Z below #[Value.ref b] s) (F0 m pc ls [.int 1]) := by
  intro T hT X
  obtain ⟨fs, hret, hrun, hended, hW, hframe⟩ := X.leave (v := some (.int 1)) (hlocks := hlocks) (fun h => by rw [hr] at h; cases h)
  have hmeth' : T.vm.method? m = some meth := X.method'
  refine ⟨T.setFrames fs, ?_, .returned (some (.int 1)), hrun, hended, rfl, lw_closed hd0 ⟨_, rfl⟩ hW hframe⟩
  jvm_step X.here [X.here.top, hx, hb, hdg, hmeth', hr, ret, narrow_b1]
  (try refine ⟨rfl, ?_⟩); (try refine ⟨rfl, ?_⟩)
  first | (intro acts; rw [hret _ acts rfl rfl rfl]) | rw [hret _ _ rfl rfl rfl]
  exact Steps.refl _
/-- what holds at the law's entry: the machine, the code, the tables' words (any of lw_tbl by 'hts w (by decide +kernel)'), the script of L ints xs at the cell b, what the Statement gives of the start (any of its parts by flat_of_before) -/
def lw_At (p : Program) (s : State) (m : MethodId) (meth : Method) (c : Code) (b L : Nat) (xs : Nat → Int32) : Prop :=
  p.tables.exec = Jvm.exec ∧ c.code = code ∧ meth.sig.returnType = ret ∧ c.maxLocals = 9 ∧ s.vm.findClass R_law = some m.cls ∧ (∀ w ∈ lw_tbl, w.before #[Value.ref b] s = true) ∧ va_X b L xs s s.heap ∧ b < s.heap.size ∧ meth.locks = false ∧ (Jvm.Cond.and given_1 narrow_1).before #[Value.ref b] s = true
theorem pn_kn {args : Array Value} {s : State} (hts : ∀ w ∈ pw_all, w.before args s = true) : ∃ D : va_G, ∀ (k : Nat) (q : vw_C), vwCl[k]? = some q → u_Kn s q.1 q.2.1 q.2.2 (D.1 k) (D.2 k) := by
  obtain ⟨c0, i0, k0⟩ := u_known (C := RX0) (T := TX0) (N := 5) (n := 5) hts inlX0 (hts (.instantiable RX0 5) (pl_m 18 (by decide +kernel)))
  obtain ⟨c1, i1, k1⟩ := u_known (C := RX1) (T := TX1) (N := 12) (n := 12) hts inlX1 (hts (.instantiable RX1 12) (pl_m 26 (by decide +kernel)))
  obtain ⟨c2, i2, k2⟩ := u_known (C := RX2) (T := TX2) (N := 17) (n := 17) hts inlX2 (hts (.instantiable RX2 17) (pl_m 22 (by decide +kernel)))
  obtain ⟨c3, i3, k3⟩ := u_known (C := RX3) (T := TX3) (N := 10) (n := 10) hts inlX3 (hts (.instantiable RX3 10) (pl_m 14 (by decide +kernel)))
  obtain ⟨c4, i4, k4⟩ := u_known (C := RX4) (T := TX4) (N := 4) (n := 4) hts inlX4 (hts (.instantiable RX4 4) (pl_m 1 (by decide +kernel)))
  obtain ⟨c5, i5, k5⟩ := u_known (C := RX5) (T := TX5) (N := 32) (n := 32) hts inlX5 (hts (.instantiable RX5 32) (pl_m 4 (by decide +kernel)))
  refine ⟨(fun k => if k = 0 then c0 else if k = 1 then c1 else if k = 2 then c2 else if k = 3 then c3 else if k = 4 then c4 else c5, fun k => if k = 0 then i0 else if k = 1 then i1 else if k = 2 then i2 else if k = 3 then i3 else if k = 4 then i4 else i5), ?_⟩
  intro k q hq
  match k, hq with
  | 0, hq => cases hq; exact k0
  | 1, hq => cases hq; exact k1
  | 2, hq => cases hq; exact k2
  | 3, hq => cases hq; exact k3
  | 4, hq => cases hq; exact k4
  | 5, hq => cases hq; exact k5
  | k + 6, hq => simp [vwCl] at hq
theorem pn_arr {args : Array Value} {s : State} {ty : FieldType} (hr : ∀ c, va_RA s c ty = (s.vm.findClass ("[" ++ ty.toString) = some c)) (h : (Cond.arrayClass ty).before args s = true) : ∃ c : ClassId, ArrOfT s c ty ∧ va_RA s c ty := by
  obtain ⟨c, k, comp, h1, h2, h3⟩ := Cond.arrayClass_spec h
  exact ⟨c, fun n z => ⟨(fun k h => by cases h), k, h2, comp, h3⟩, by rw [hr]; exact h1⟩
theorem pn_kt {args : Array Value} {s : State} (hts : ∀ w ∈ lw_tbl, w.before args s = true) : ∃ cI cZ cJ cG : ClassId, ∀ (k : Nat) (q : ClassId × FieldType), (pn_Y cI cZ cJ cG)[k]? = some q → ArrOfT s q.1 q.2 ∧ va_RA s q.1 q.2 := by
  obtain ⟨cI, i1⟩ := pn_arr (ty := .int) (fun _ => rfl) (hts (.arrayClass .int) (List.mem_of_getElem? (i := 155) (by decide +kernel)))
  obtain ⟨cZ, z1⟩ := pn_arr (ty := .boolean) (fun _ => rfl) (hts (.arrayClass .boolean) (List.mem_of_getElem? (i := 154) (by decide +kernel)))
  obtain ⟨cJ, j1⟩ := pn_arr (ty := .long) (fun _ => rfl) (hts (.arrayClass .long) (List.mem_of_getElem? (i := 1240) (by decide +kernel)))
  obtain ⟨comp, cG, kG, f1, -, f3, f4, f5⟩ := arrayOverA_spec (hts (.arrayOver (.array .int)) (List.mem_of_getElem? (i := 1217) (by decide +kernel)))
  refine ⟨cI, cZ, cJ, cG, ?_⟩
  intro k q hq
  match k, hq with
  | 0, hq => cases hq; exact i1
  | 1, hq => cases hq; exact z1
  | 2, hq => cases hq; exact j1
  | 3, hq => cases hq; exact ⟨fun n z => ⟨(fun k h => by cases h), kG, f3, comp, f4⟩, f5⟩
  | k + 4, hq => simp [pn_Y] at hq
theorem pn_Tof {args : Array Value} {s : State} (hts : ∀ w ∈ lw_tbl, w.before args s = true) (hgv : (Jvm.Cond.and given_1 narrow_1).before args s = true) : pn_T s := by
  have hf := flat_of_before _ hgv
  refine ⟨fun w hw => va_Nw.of (pn_on w hw) (hts w ?_), fun q hq => ?_, fun w hw => ?_, ?_⟩
  · simp only [pn_ws, List.mem_cons, List.not_mem_nil, or_false] at hw
    rcases hw with rfl | rfl | rfl | rfl | rfl | rfl
    · exact List.mem_of_getElem? (i := 374) (by decide +kernel)
    · exact List.mem_of_getElem? (i := 376) (by decide +kernel)
    · exact List.mem_of_getElem? (i := 378) (by decide +kernel)
    · exact List.mem_of_getElem? (i := 372) (by decide +kernel)
    · exact List.mem_of_getElem? (i := 696) (by decide +kernel)
    · exact List.mem_of_getElem? (i := 452) (by decide +kernel)
  · simp only [pn_sl, List.mem_cons, List.not_mem_nil, or_false] at hq
    rcases hq with rfl | rfl | rfl | rfl | rfl | rfl | rfl | rfl | rfl | rfl | rfl | rfl | rfl | rfl | rfl | rfl | rfl | rfl | rfl | rfl | rfl
    · obtain ⟨a, c1, cell, k, h1, -⟩ := Cond.exactly_spec (hf (.exactly (.string RX4 47) "java/lang/String") (by decide +kernel))
      exact ⟨a, vk_R.of (hts (.stringRef RX4 47 "no such parent") (List.mem_of_getElem? (i := 685) (by decide +kernel))) h1⟩
    · obtain ⟨a, c1, cell, k, h1, -⟩ := Cond.exactly_spec (hf (.exactly (.string RX4 71) "java/lang/String") (by decide +kernel))
      exact ⟨a, vk_R.of (hts (.stringRef RX4 71 "an interface has no maker") (List.mem_of_getElem? (i := 734) (by decide +kernel))) h1⟩
    · obtain ⟨a, c1, cell, k, h1, -⟩ := Cond.exactly_spec (hf (.exactly (.string RX4 80) "java/lang/String") (by decide +kernel))
      exact ⟨a, vk_R.of (hts (.stringRef RX4 80 "a maker is never abstract") (List.mem_of_getElem? (i := 751) (by decide +kernel))) h1⟩
    · obtain ⟨a, c1, cell, k, h1, -⟩ := Cond.exactly_spec (hf (.exactly (.string RX4 86) "java/lang/String") (by decide +kernel))
      exact ⟨a, vk_R.of (hts (.stringRef RX4 86 "no such step") (List.mem_of_getElem? (i := 768) (by decide +kernel))) h1⟩
    · obtain ⟨a, c1, cell, k, h1, -⟩ := Cond.exactly_spec (hf (.exactly (.string RX4 98) "java/lang/String") (by decide +kernel))
      exact ⟨a, vk_R.of (hts (.stringRef RX4 98 "no body for that name") (List.mem_of_getElem? (i := 769) (by decide +kernel))) h1⟩
    · obtain ⟨a, c1, cell, k, h1, -⟩ := Cond.exactly_spec (hf (.exactly (.string RX4 115) "java/lang/String") (by decide +kernel))
      exact ⟨a, vk_R.of (hts (.stringRef RX4 115 "no such step of an initialiser") (List.mem_of_getElem? (i := 789) (by decide +kernel))) h1⟩
    · obtain ⟨a, c1, cell, k, h1, -⟩ := Cond.exactly_spec (hf (.exactly (.string RX4 122) "java/lang/String") (by decide +kernel))
      exact ⟨a, vk_R.of (hts (.stringRef RX4 122 "no such field") (List.mem_of_getElem? (i := 797) (by decide +kernel))) h1⟩
    · obtain ⟨a, c1, cell, k, h1, -⟩ := Cond.exactly_spec (hf (.exactly (.string RX4 125) "java/lang/String") (by decide +kernel))
      exact ⟨a, vk_R.of (hts (.stringRef RX4 125 "an interface declares no fields") (List.mem_of_getElem? (i := 798) (by decide +kernel))) h1⟩
    · obtain ⟨a, c1, cell, k, h1, -⟩ := Cond.exactly_spec (hf (.exactly (.string RX4 168) "java/lang/String") (by decide +kernel))
      exact ⟨a, vk_R.of (hts (.stringRef RX4 168 "what is 0 to 8") (List.mem_of_getElem? (i := 466) (by decide +kernel))) h1⟩
    · obtain ⟨a, c1, cell, k, h1, -⟩ := Cond.exactly_spec (hf (.exactly (.string RX4 182) "java/lang/String") (by decide +kernel))
      exact ⟨a, vk_R.of (hts (.stringRef RX4 182 "no such place") (List.mem_of_getElem? (i := 495) (by decide +kernel))) h1⟩
    · obtain ⟨a, c1, cell, k, h1, -⟩ := Cond.exactly_spec (hf (.exactly (.string RX4 205) "java/lang/String") (by decide +kernel))
      exact ⟨a, vk_R.of (hts (.stringRef RX4 205 "what is 0 to 6") (List.mem_of_getElem? (i := 506) (by decide +kernel))) h1⟩
    · obtain ⟨a, c1, cell, k, h1, -⟩ := Cond.exactly_spec (hf (.exactly (.string RX4 228) "java/lang/String") (by decide +kernel))
      exact ⟨a, vk_R.of (hts (.stringRef RX4 228 "what is 0 to 13") (List.mem_of_getElem? (i := 411) (by decide +kernel))) h1⟩
    · obtain ⟨a, c1, cell, k, h1, -⟩ := Cond.exactly_spec (hf (.exactly (.string RX4 272) "java/lang/String") (by decide +kernel))
      exact ⟨a, vk_R.of (hts (.stringRef RX4 272 "no such set of interfaces") (List.mem_of_getElem? (i := 689) (by decide +kernel))) h1⟩
    · obtain ⟨a, c1, cell, k, h1, -⟩ := Cond.exactly_spec (hf (.exactly (.string RX4 274) "java/lang/String") (by decide +kernel))
      exact ⟨a, vk_R.of (hts (.stringRef RX4 274 "there are 12 classes") (List.mem_of_getElem? (i := 703) (by decide +kernel))) h1⟩
    · obtain ⟨a, c1, cell, k, h1, -⟩ := Cond.exactly_spec (hf (.exactly (.string RX4 279) "java/lang/String") (by decide +kernel))
      exact ⟨a, vk_R.of (hts (.stringRef RX4 279 "no such class") (List.mem_of_getElem? (i := 459) (by decide +kernel))) h1⟩
    · obtain ⟨a, c1, cell, k, h1, -⟩ := Cond.exactly_spec (hf (.exactly (.string RX4 281) "java/lang/String") (by decide +kernel))
      exact ⟨a, vk_R.of (hts (.stringRef RX4 281 "no such name") (List.mem_of_getElem? (i := 733) (by decide +kernel))) h1⟩
    · obtain ⟨a, c1, cell, k, h1, -⟩ := Cond.exactly_spec (hf (.exactly (.string RX4 283) "java/lang/String") (by decide +kernel))
      exact ⟨a, vk_R.of (hts (.stringRef RX4 283 "the class is no longer fresh") (List.mem_of_getElem? (i := 739) (by decide +kernel))) h1⟩
    · obtain ⟨a, c1, cell, k, h1, -⟩ := Cond.exactly_spec (hf (.exactly (.string RX4 288) "java/lang/String") (by decide +kernel))
      exact ⟨a, vk_R.of (hts (.stringRef RX4 288 "there are 6 steps") (List.mem_of_getElem? (i := 774) (by decide +kernel))) h1⟩
    · obtain ⟨a, c1, cell, k, h1, -⟩ := Cond.exactly_spec (hf (.exactly (.string RX4 293) "java/lang/String") (by decide +kernel))
      exact ⟨a, vk_R.of (hts (.stringRef RX4 293 "a class is 0 to 11") (List.mem_of_getElem? (i := 813) (by decide +kernel))) h1⟩
    · obtain ⟨a, c1, cell, k, h1, -⟩ := Cond.exactly_spec (hf (.exactly (.string RX4 298) "java/lang/String") (by decide +kernel))
      exact ⟨a, vk_R.of (hts (.stringRef RX4 298 "a name to run is 1 to 5") (List.mem_of_getElem? (i := 828) (by decide +kernel))) h1⟩
    · obtain ⟨a, c1, cell, k, h1, -⟩ := Cond.exactly_spec (hf (.exactly (.string RX4 300) "java/lang/String") (by decide +kernel))
      exact ⟨a, vk_R.of (hts (.stringRef RX4 300 "no plain and loaded class, or no such name") (List.mem_of_getElem? (i := 482) (by decide +kernel))) h1⟩
  · simp only [pn_ne, List.mem_cons, List.not_mem_nil, or_false] at hw
    rcases hw with rfl | rfl | rfl
    · exact va_Nw.of rfl (hts _ (List.mem_of_getElem? (i := 102) (by decide +kernel)))
    · exact va_Nw.of rfl (hts _ (List.mem_of_getElem? (i := 186) (by decide +kernel)))
    · exact va_Nw.of rfl (hts _ (List.mem_of_getElem? (i := 278) (by decide +kernel)))
  · exact pn_AG.of (hts (.arrayOver (.array .int)) (List.mem_of_getElem? (i := 1217) (by decide +kernel)))
theorem pn_Zof {args : Array Value} {s : State} (hts : ∀ w ∈ lw_tbl, w.before args s = true) (hgv : (Jvm.Cond.and given_1 narrow_1).before args s = true) : pn_Z (pn_N s.heap.size) s s.heap := by
  have hf := flat_of_before _ hgv
  exact ⟨vx_Zqof (hts (.laysStatic Bundle.tN "UNASSIGNED_STACK" Bundle.steD) (List.mem_of_getElem? (i := 397) (by decide +kernel))) (hts (.initialized Bundle.tN) (List.mem_of_getElem? (i := 84) (by decide +kernel))) (hf (.isRef (.static Bundle.tN "UNASSIGNED_STACK" Bundle.steD)) (by decide +kernel)) (fun a h => Nat.not_le.mpr h), vx_Zqof (hts (.laysStatic Bundle.tN "SUPPRESSED_SENTINEL" Bundle.listD) (List.mem_of_getElem? (i := 399) (by decide +kernel))) (hts (.initialized Bundle.tN) (List.mem_of_getElem? (i := 84) (by decide +kernel))) (hf (.isRef (.static Bundle.tN "SUPPRESSED_SENTINEL" Bundle.listD)) (by decide +kernel)) (fun a h => Nat.not_le.mpr h)⟩
