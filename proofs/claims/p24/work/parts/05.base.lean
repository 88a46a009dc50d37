/-- new cells alone -/
def pn_N (sz : Nat) : Nat → Prop := fun q => sz ≤ q
/-- a start that only reads: the cells, the classes -/
def pn_B (D : va_G) (Y : List (ClassId × FieldType)) (ws : va_W) (sz : Nat) : State → Prop := fun U => U.heap.size = sz ∧ va_P D vwCl ws U.heap ∧ va_K D vwCl Y U
theorem pn_B_blind {av : List Value} {D : va_G} {Y : List (ClassId × FieldType)} {ws : va_W} {sz : Nat} : FrameBlind (va_Pc av (pn_B D Y ws sz)) := by
  intro a U g mk q
  obtain ⟨q0, q1, qP, qK⟩ := q
  exact ⟨q0, q1, qP, va_K.moved (u := U) (U := U.calling g mk a) (Vm.Alike.refl U.vm) qK⟩
theorem pn_B_at {av : List Value} {D : va_G} {Y : List (ClassId × FieldType)} {ws : va_W} {s : State} {H : Heap} (hP : va_P D vwCl ws H) (hK : va_K D vwCl Y s) : ∀ U : State, U.heap = H → s.WarmedH U.vm → va_Pc av (pn_B D Y ws H.size) av.toArray U :=
  fun U hU hW => ⟨rfl, by rw [hU], by rw [hU]; exact hP, va_K.moved hW.alike hK⟩
/-- a start that writes: the cells are apart -/
def pn_M (D : va_G) (Y : List (ClassId × FieldType)) (ws : va_W) (sz : Nat) : State → Prop := fun U => U.heap.size = sz ∧ va_P D vwCl ws U.heap ∧ va_K D vwCl Y U ∧ va_D (fun _ => True) ws
theorem pn_M_blind {av : List Value} {D : va_G} {Y : List (ClassId × FieldType)} {ws : va_W} {sz : Nat} : FrameBlind (va_Pc av (pn_M D Y ws sz)) := by
  intro a U g mk q
  obtain ⟨q0, q1, qP, qK, qD⟩ := q
  exact ⟨q0, q1, qP, va_K.moved (u := U) (U := U.calling g mk a) (Vm.Alike.refl U.vm) qK, qD⟩
theorem pn_M_at {av : List Value} {D : va_G} {Y : List (ClassId × FieldType)} {ws : va_W} {s : State} {H : Heap} {A : Nat → Prop} (hP : va_P D vwCl ws H) (hD : va_D A ws) (hK : va_K D vwCl Y s) : ∀ U : State, U.heap = H → s.WarmedH U.vm → va_Pc av (pn_M D Y ws H.size) av.toArray U :=
  fun U hU hW => ⟨rfl, by rw [hU], by rw [hU]; exact hP, va_K.moved hW.alike hK, hD.weaken (fun _ _ _ _ => trivial)⟩
/-- the words of throws that the tables give to the law alone -/
def pn_in (X : String) : MethodName := ⟨X, "<init>", "(Ljava/lang/String;)V"⟩
def pn_ws : List Cond := [.declares (pn_in "java/lang/RuntimeException"), .declares (pn_in "java/lang/Exception"), .declares (pn_in "java/lang/Throwable"), .castable "java/lang/IllegalArgumentException" "java/lang/IllegalArgumentException", .castable "java/lang/IllegalStateException" "java/lang/IllegalStateException", .castable "java/lang/IndexOutOfBoundsException" "java/lang/IndexOutOfBoundsException"]
def pn_sl : List (Nat × String) := [(47, "no such parent"), (71, "an interface has no maker"), (80, "a maker is never abstract"), (86, "no such step"), (98, "no body for that name"), (115, "no such step of an initialiser"), (122, "no such field"), (125, "an interface declares no fields"), (168, "what is 0 to 8"), (182, "no such place"), (205, "what is 0 to 6"), (228, "what is 0 to 13"), (272, "no such set of interfaces"), (274, "there are 12 classes"), (279, "no such class"), (281, "no such name"), (283, "the class is no longer fresh"), (288, "there are 6 steps"), (293, "a class is 0 to 11"), (298, "a name to run is 1 to 5"), (300, "no plain and loaded class, or no such name")]
def pn_ne : List Cond := [.methodLinkNest RX4 11 yX3_init RX4, .methodLinkNest RX4 27 yX2_init RX4, .methodLinkNest RX1 11 yX2_init RX4]
/-- arrays of int arrays can be made -/
def pn_AG (U : State) : Prop := (Cond.arrayOver (.array .int)).before #[] U = true
theorem pn_AG.moved {u U : State} (hvm : u.vm.Alike U.vm) (h : pn_AG u) : pn_AG U := by
  obtain ⟨comp, c, k, h1, h2, h3, h4, h5⟩ := arrayOverA_spec h
  obtain ⟨k', hk', he⟩ := hvm.2.2 _ _ h3
  have hi : (U.vm.classes.findIdx? fun (x : Class) => match x.kind with | .array component _ => component == comp | _ => false) = some c := by
    have e1 := va_idx_bare U.vm comp
    have e2 := va_idx_bare u.vm comp
    have e3 : U.vm.bare = u.vm.bare := by first | exact hvm.bare_eq | exact hvm.bare_eq.symm
    rw [e3] at e1
    exact (e1.symm.trans e2).trans h2
  have hkind : k'.kind = .array comp (.array .int) := by rw [he]; exact h4
  have f1 : U.vm.findClass (FieldType.array .int).toString = some comp := by rw [hvm.findClass]; exact h1
  have f2 : U.vm.findClass ("[" ++ (FieldType.array .int).toString) = some c := by rw [hvm.findClass]; exact h5
  unfold pn_AG Cond.before Cond.holds
  simp only [Cond.value]
  rw [f1, Option.bind_some]
  refine (congrArg (fun o : Option Nat => (o.bind (fun c => (U.vm.classes[c]?).map fun (k : Class) => match k.kind with | .array _ ty => decide (ty = FieldType.array .int) && decide (U.vm.findClass ("[" ++ (FieldType.array .int).toString) = some c) | _ => false) == some true)) hi).trans ?_
  simp [hk', hkind, f2]
def pn_T (U : State) : Prop := (∀ w ∈ pn_ws, va_Nw w U) ∧ (∀ q ∈ pn_sl, ∃ sa : Nat, vk_R RX4 q.1 q.2 sa U) ∧ (∀ w ∈ pn_ne, va_Nw w U) ∧ pn_AG U
theorem pn_T.same {u U : State} (h : u.vm = U.vm) (q : pn_T u) : pn_T U := by
  refine ⟨fun w hw => ?_, fun x hx => ?_, fun w hw => ?_, ?_⟩
  · have h1 := q.1 w hw
    have ho : w.onTables = true := by
      simp only [pn_ws, List.mem_cons, List.not_mem_nil, or_false] at hw
      rcases hw with rfl | rfl | rfl | rfl | rfl | rfl <;> rfl
    exact va_Nw.same ho h h1
  · obtain ⟨sa, h1⟩ := q.2.1 x hx
    exact ⟨sa, vk_R.same h.symm h1⟩
  · have h1 := q.2.2.1 w hw
    have ho : w.onTables = true := by
      simp only [pn_ne, List.mem_cons, List.not_mem_nil, or_false] at hw
      rcases hw with rfl | rfl | rfl <;> rfl
    exact va_Nw.same ho h h1
  · exact pn_AG.moved (by rw [← h]; exact Vm.Alike.refl u.vm) q.2.2.2
theorem pn_T.warm {s U : State} (hW : s.WarmedH U.vm) (q : pn_T s) : pn_T U := by
  refine ⟨fun w hw => ?_, fun x hx => ?_, fun w hw => ?_, pn_AG.moved hW.alike q.2.2.2⟩
  · have h1 := q.1 w hw
    simp only [pn_ws, List.mem_cons, List.not_mem_nil, or_false] at hw
    rcases hw with rfl | rfl | rfl | rfl | rfl | rfl
    · exact va_Nw.warmD hW h1
    · exact va_Nw.warmD hW h1
    · exact va_Nw.warmD hW h1
    · exact va_Nw.warmC hW h1
    · exact va_Nw.warmC hW h1
    · exact va_Nw.warmC hW h1
  · obtain ⟨sa, h1⟩ := q.2.1 x hx
    exact ⟨sa, vk_R.warm hW h1⟩
  · have h1 := q.2.2.1 w hw
    simp only [pn_ne, List.mem_cons, List.not_mem_nil, or_false] at hw
    rcases hw with rfl | rfl | rfl
    · exact va_Nw.warmM hW h1
    · exact va_Nw.warmM hW h1
    · exact va_Nw.warmM hW h1
def pn_Z (A : Nat → Prop) (U : State) (H : Heap) : Prop := vx_Zq Bundle.tN "UNASSIGNED_STACK" Bundle.steD A U H ∧ vx_Zq Bundle.tN "SUPPRESSED_SENTINEL" Bundle.listD A U H
/-- a start of a method that may throw -/
def pn_X (D : va_G) (Y : List (ClassId × FieldType)) (ws : va_W) (A : Nat → Prop) (sz : Nat) : State → Prop := fun U => pn_M D Y ws sz U ∧ pn_Z A U U.heap ∧ pn_T U
theorem pn_X_blind {av : List Value} {D : va_G} {Y : List (ClassId × FieldType)} {ws : va_W} {A : Nat → Prop} {sz : Nat} : FrameBlind (va_Pc av (pn_X D Y ws A sz)) := by
  intro a U g mk q
  obtain ⟨q0, ⟨q1, qP, qK, qD⟩, ⟨z1, z2⟩, qT⟩ := q
  exact ⟨q0, ⟨q1, qP, va_K.moved (u := U) (U := U.calling g mk a) (Vm.Alike.refl U.vm) qK, qD⟩, ⟨vx_Zq.moved (u := U) (U := U.calling g mk a) (Vm.Alike.refl U.vm) z1, vx_Zq.moved (u := U) (U := U.calling g mk a) (Vm.Alike.refl U.vm) z2⟩, pn_T.same (u := U) (U := U.calling g mk a) rfl qT⟩
theorem pn_X_at {av : List Value} {D : va_G} {Y : List (ClassId × FieldType)} {ws : va_W} {s : State} {H : Heap} {locs : List Loc} {A A1 : Nat → Prop} {Aw : Nat → Prop} (hP : va_P D vwCl ws H) (hD : va_D Aw ws) (hK : va_K D vwCl Y s) (hS : va_S A s.heap H locs) (hZ : pn_Z A s s.heap) (hT : pn_T s) (hAB : ∀ q, A1 q → A q) : ∀ U : State, U.heap = H → s.WarmedH U.vm → va_Pc av (pn_X D Y ws A1 H.size) av.toArray U :=
  fun U hU hW => ⟨rfl, ⟨by rw [hU], by rw [hU]; exact hP, va_K.moved hW.alike hK, hD.weaken (fun _ _ _ _ => trivial)⟩, ⟨by rw [hU]; exact ((hZ.1.kept (fun a h1 h2 => hS.2.1 a h1 h2)).moved hW.alike).narrow hAB, by rw [hU]; exact ((hZ.2.kept (fun a h1 h2 => hS.2.1 a h1 h2)).moved hW.alike).narrow hAB⟩, pn_T.warm hW hT⟩
theorem pn_NA {A0 : Nat → Prop} {H0 H : Heap} {locs : List Loc} (hS : va_S A0 H0 H locs) (hA : ∀ q, H0.size ≤ q → A0 q) : ∀ q, pn_N H.size q → A0 q := fun q h => hA q (Nat.le_trans hS.1 h)
theorem pn_pk {D : va_G} {cl : List vw_C} {ws : va_W} {H H1 : Heap} (hP : va_P D cl ws H) (hk : ∀ q : Nat, q < H.size → ¬ pn_N H.size q → H1[q]? = H[q]?) : va_P D cl ws H1 :=
  hP.kept (fun k x hx => hk x.1 ((hP k x hx).lt) (Nat.not_le.mpr (hP k x hx).lt))
section PNC
variable {p : Program} {l : Launch} {e : Env} {R : Room} {s : State} {m : MethodId} {args : Array Value} {below : List Frame} {meth : Method} {c : Code} {H : Heap} {locs : List Loc} {cells slots : Nat} {Q : State → Prop}
variable {pc : Nat} {ls : Array Slot} {rest st0 : List Value} {a : Array Value} {A0 : Nat → Prop} {H0 : Heap} {mc ms : Nat} {D : va_G} {cl : List vw_C} {ws : va_W}
/-- a call that only reads: what stood stands -/
theorem pn_ci {post : Int32 → Prop} (hr : va_Run p l e R s m args below meth c H locs cells slots mc ms (F0 m pc ls st0) rest (va_Qi (fun r (_ : Unit) => post r) (fun _ _ => True) (pn_N H.size) a) (pn_N H.size)) (hS : va_S A0 H0 H locs) (hA : ∀ q, H0.size ≤ q → A0 q) (hP : va_P D cl ws H)
    (kk : ∀ (r : Int32) (H1 : Heap) (locs1 : List Loc), post r → va_P D cl ws H1 → va_S A0 H0 H1 locs1 → W p l e R s m args below meth c H1 locs1 (cells + mc) (slots + ms) Q (F0 m (pc + 3) ls (.int r :: rest))) : W p l e R s m args below meth c H locs cells slots Q (F0 m pc ls st0) :=
  va_calli hr hS (fun q _ h => pn_NA hS hA q h) (pn_NA hS hA) (fun r u t H1 locs1 ht hvm hw hB hz1 hk1 hS1 => kk r H1 locs1 hw (pn_pk hP hk1) hS1)
theorem pn_cl {post : Int64 → Prop} (hr : va_Run p l e R s m args below meth c H locs cells slots mc ms (F0 m pc ls st0) rest (va_Ql (fun r (_ : Unit) => post r) (fun _ _ => True) (pn_N H.size) a) (pn_N H.size)) (hS : va_S A0 H0 H locs) (hA : ∀ q, H0.size ≤ q → A0 q) (hP : va_P D cl ws H)
    (kk : ∀ (r : Int64) (H1 : Heap) (locs1 : List Loc), post r → va_P D cl ws H1 → va_S A0 H0 H1 locs1 → W p l e R s m args below meth c H1 locs1 (cells + mc) (slots + ms) Q (F0 m (pc + 3) ls (.long r :: rest))) : W p l e R s m args below meth c H locs cells slots Q (F0 m pc ls st0) :=
  va_calll hr hS (fun q _ h => pn_NA hS hA q h) (pn_NA hS hA) (fun r u t H1 locs1 ht hvm hw hB hz1 hk1 hS1 => kk r H1 locs1 hw (pn_pk hP hk1) hS1)
theorem pn_cd {post : UInt64 → Prop} (hr : va_Run p l e R s m args below meth c H locs cells slots mc ms (F0 m pc ls st0) rest (va_Qd (fun r (_ : Unit) => post r) (fun _ _ => True) (pn_N H.size) a) (pn_N H.size)) (hS : va_S A0 H0 H locs) (hA : ∀ q, H0.size ≤ q → A0 q) (hP : va_P D cl ws H)
    (kk : ∀ (r : UInt64) (H1 : Heap) (locs1 : List Loc), post r → va_P D cl ws H1 → va_S A0 H0 H1 locs1 → W p l e R s m args below meth c H1 locs1 (cells + mc) (slots + ms) Q (F0 m (pc + 3) ls (.double r :: rest))) : W p l e R s m args below meth c H locs cells slots Q (F0 m pc ls st0) :=
  va_calld hr hS (fun q _ h => pn_NA hS hA q h) (pn_NA hS hA) (fun r u t H1 locs1 ht hvm hw hB hz1 hk1 hS1 => kk r H1 locs1 hw (pn_pk hP hk1) hS1)
theorem pn_cv {post : Prop} (hr : va_Run p l e R s m args below meth c H locs cells slots mc ms (F0 m pc ls st0) rest (va_Qv (fun (_ : Unit) => post) (fun _ _ => True) (pn_N H.size) a) (pn_N H.size)) (hS : va_S A0 H0 H locs) (hA : ∀ q, H0.size ≤ q → A0 q) (hP : va_P D cl ws H)
    (kk : ∀ (H1 : Heap) (locs1 : List Loc), post → va_P D cl ws H1 → va_S A0 H0 H1 locs1 → W p l e R s m args below meth c H1 locs1 (cells + mc) (slots + ms) Q (F0 m (pc + 3) ls rest)) : W p l e R s m args below meth c H locs cells slots Q (F0 m pc ls st0) :=
  va_callv hr hS (fun q _ h => pn_NA hS hA q h) (pn_NA hS hA) (fun u t H1 locs1 ht hvm hw hB hz1 hk1 hS1 => kk H1 locs1 hw (pn_pk hP hk1) hS1)
/-- a call that only reads, or throws -/
theorem pn_xi {post : Int32 → Prop} {XE : String → Prop} (hr : vx_Run p l e R s m args below meth c H locs cells slots mc ms (F0 m pc ls st0) rest (va_Qi (fun r (_ : Unit) => post r) (fun _ _ => True) (pn_N H.size) a) (vx_X (fun _ : Unit => True) (fun E _ _ => XE E) (pn_N H.size)) (pn_N H.size)) (hS : va_S A0 H0 H locs) (hA : ∀ q, H0.size ≤ q → A0 q) (hP : va_P D cl ws H)
    (kx : ∀ (E : String) (ce : Cell) (q9 : Addr) (H1 : Heap) (locs1 : List Loc), XE E → va_P D cl ws H1 → va_S A0 H0 H1 locs1 → H1[q9]? = some ce → ce.vm = .none → s.vm.findClass E = some ce.cls → vx_W p l e R s m args below meth c H1 locs1 (cells + mc) (slots + ms) Q (F0 m pc ls rest) q9)
    (kk : ∀ (r : Int32) (H1 : Heap) (locs1 : List Loc), post r → va_P D cl ws H1 → va_S A0 H0 H1 locs1 → W p l e R s m args below meth c H1 locs1 (cells + mc) (slots + ms) Q (F0 m (pc + 3) ls (.int r :: rest))) : W p l e R s m args below meth c H locs cells slots Q (F0 m pc ls st0) :=
  vx_calli hr hS (fun q _ h => pn_NA hS hA q h) (pn_NA hS hA) (fun q _ h => pn_NA hS hA q h) (fun E ce q9 u t H1 locs1 ht hvm hp hB hz1 hk1 hS1 h1 h2 h3 => kx E ce q9 H1 locs1 hB (pn_pk hP hk1) hS1 h1 h2 h3) (fun r u t H1 locs1 ht hvm hw hB hz1 hk1 hS1 => kk r H1 locs1 hw (pn_pk hP hk1) hS1)
theorem pn_xv {post : Prop} {XE : String → Prop} (hr : vx_Run p l e R s m args below meth c H locs cells slots mc ms (F0 m pc ls st0) rest (va_Qv (fun (_ : Unit) => post) (fun _ _ => True) (pn_N H.size) a) (vx_X (fun _ : Unit => True) (fun E _ _ => XE E) (pn_N H.size)) (pn_N H.size)) (hS : va_S A0 H0 H locs) (hA : ∀ q, H0.size ≤ q → A0 q) (hP : va_P D cl ws H)
    (kx : ∀ (E : String) (ce : Cell) (q9 : Addr) (H1 : Heap) (locs1 : List Loc), XE E → va_P D cl ws H1 → va_S A0 H0 H1 locs1 → H1[q9]? = some ce → ce.vm = .none → s.vm.findClass E = some ce.cls → vx_W p l e R s m args below meth c H1 locs1 (cells + mc) (slots + ms) Q (F0 m pc ls rest) q9)
    (kk : ∀ (H1 : Heap) (locs1 : List Loc), post → va_P D cl ws H1 → va_S A0 H0 H1 locs1 → W p l e R s m args below meth c H1 locs1 (cells + mc) (slots + ms) Q (F0 m (pc + 3) ls rest)) : W p l e R s m args below meth c H locs cells slots Q (F0 m pc ls st0) :=
  vx_callv hr hS (fun q _ h => pn_NA hS hA q h) (pn_NA hS hA) (fun q _ h => pn_NA hS hA q h) (fun E ce q9 u t H1 locs1 ht hvm hp hB hz1 hk1 hS1 h1 h2 h3 => kx E ce q9 H1 locs1 hB (pn_pk hP hk1) hS1 h1 h2 h3) (fun u t H1 locs1 ht hvm hw hB hz1 hk1 hS1 => kk H1 locs1 hw (pn_pk hP hk1) hS1)
variable {wr wc : va_W}
/-- a call that writes its world wc and leaves w1 u there; the rest wr stays -/
theorem pn_mi {S : Type} {w1 : S → va_W} {post : Int32 → S → Prop} (isC isR : List Nat) (hr : va_Run p l e R s m args below meth c H locs cells slots mc ms (F0 m pc ls st0) rest (va_Qi post (fun u t => va_P D cl (w1 u) t.heap ∧ va_D (va_A wc H.size) (w1 u)) (va_A wc H.size) a) (va_A wc H.size)) (hS : va_S A0 H0 H locs) (hA : ∀ q, H0.size ≤ q → A0 q) (hP : va_P D cl ws H) (hD : va_D A0 ws) (hC : isC.map (fun i => ws[i]?) = wc.map some) (hR : isR.map (fun i => ws[i]?) = wr.map some) (hn : va_nd isR = true) (hdis : ∀ i ∈ isR, i ∉ isC)
    (kk : ∀ (r : Int32) (u : S) (H1 : Heap) (locs1 : List Loc), post r u → va_P D cl (wr ++ w1 u) H1 → va_D A0 (wr ++ w1 u) → va_S A0 H0 H1 locs1 → W p l e R s m args below meth c H1 locs1 (cells + mc) (slots + ms) Q (F0 m (pc + 3) ls (.int r :: rest))) : W p l e R s m args below meth c H locs cells slots Q (F0 m pc ls st0) := by
  have hF := va_free (wc := wc) hD hS hA isC hC
  refine va_calli hr hS (fun q _ h => hF q h) hF (fun r u t H1 locs1 ht hvm hw hB hz1 hk1 hS1 => ?_)
  obtain ⟨hP1, hD1⟩ := hB
  rw [ht] at hP1
  obtain ⟨hP2, hD2⟩ := va_join (wr := wr) (w1 := w1 u) hP hD isC isR hC hR hn hdis hk1 hF hP1 hD1
  exact kk r u H1 locs1 hw hP2 hD2 hS1
theorem pn_mv {S : Type} {w1 : S → va_W} {post : S → Prop} (isC isR : List Nat) (hr : va_Run p l e R s m args below meth c H locs cells slots mc ms (F0 m pc ls st0) rest (va_Qv post (fun u t => va_P D cl (w1 u) t.heap ∧ va_D (va_A wc H.size) (w1 u)) (va_A wc H.size) a) (va_A wc H.size)) (hS : va_S A0 H0 H locs) (hA : ∀ q, H0.size ≤ q → A0 q) (hP : va_P D cl ws H) (hD : va_D A0 ws) (hC : isC.map (fun i => ws[i]?) = wc.map some) (hR : isR.map (fun i => ws[i]?) = wr.map some) (hn : va_nd isR = true) (hdis : ∀ i ∈ isR, i ∉ isC)
    (kk : ∀ (u : S) (H1 : Heap) (locs1 : List Loc), post u → va_P D cl (wr ++ w1 u) H1 → va_D A0 (wr ++ w1 u) → va_S A0 H0 H1 locs1 → W p l e R s m args below meth c H1 locs1 (cells + mc) (slots + ms) Q (F0 m (pc + 3) ls rest)) : W p l e R s m args below meth c H locs cells slots Q (F0 m pc ls st0) := by
  have hF := va_free (wc := wc) hD hS hA isC hC
  refine va_callv hr hS (fun q _ h => hF q h) hF (fun u t H1 locs1 ht hvm hw hB hz1 hk1 hS1 => ?_)
  obtain ⟨hP1, hD1⟩ := hB
  rw [ht] at hP1
  obtain ⟨hP2, hD2⟩ := va_join (wr := wr) (w1 := w1 u) hP hD isC isR hC hR hn hdis hk1 hF hP1 hD1
  exact kk u H1 locs1 hw hP2 hD2 hS1
theorem pn_ml {S : Type} {w1 : S → va_W} {post : Int64 → S → Prop} (isC isR : List Nat) (hr : va_Run p l e R s m args below meth c H locs cells slots mc ms (F0 m pc ls st0) rest (va_Ql post (fun u t => va_P D cl (w1 u) t.heap ∧ va_D (va_A wc H.size) (w1 u)) (va_A wc H.size) a) (va_A wc H.size)) (hS : va_S A0 H0 H locs) (hA : ∀ q, H0.size ≤ q → A0 q) (hP : va_P D cl ws H) (hD : va_D A0 ws) (hC : isC.map (fun i => ws[i]?) = wc.map some) (hR : isR.map (fun i => ws[i]?) = wr.map some) (hn : va_nd isR = true) (hdis : ∀ i ∈ isR, i ∉ isC)
    (kk : ∀ (r : Int64) (u : S) (H1 : Heap) (locs1 : List Loc), post r u → va_P D cl (wr ++ w1 u) H1 → va_D A0 (wr ++ w1 u) → va_S A0 H0 H1 locs1 → W p l e R s m args below meth c H1 locs1 (cells + mc) (slots + ms) Q (F0 m (pc + 3) ls (.long r :: rest))) : W p l e R s m args below meth c H locs cells slots Q (F0 m pc ls st0) := by
  have hF := va_free (wc := wc) hD hS hA isC hC
  refine va_calll hr hS (fun q _ h => hF q h) hF (fun r u t H1 locs1 ht hvm hw hB hz1 hk1 hS1 => ?_)
  obtain ⟨hP1, hD1⟩ := hB
  rw [ht] at hP1
  obtain ⟨hP2, hD2⟩ := va_join (wr := wr) (w1 := w1 u) hP hD isC isR hC hR hn hdis hk1 hF hP1 hD1
  exact kk r u H1 locs1 hw hP2 hD2 hS1
theorem pn_md {S : Type} {w1 : S → va_W} {post : UInt64 → S → Prop} (isC isR : List Nat) (hr : va_Run p l e R s m args below meth c H locs cells slots mc ms (F0 m pc ls st0) rest (va_Qd post (fun u t => va_P D cl (w1 u) t.heap ∧ va_D (va_A wc H.size) (w1 u)) (va_A wc H.size) a) (va_A wc H.size)) (hS : va_S A0 H0 H locs) (hA : ∀ q, H0.size ≤ q → A0 q) (hP : va_P D cl ws H) (hD : va_D A0 ws) (hC : isC.map (fun i => ws[i]?) = wc.map some) (hR : isR.map (fun i => ws[i]?) = wr.map some) (hn : va_nd isR = true) (hdis : ∀ i ∈ isR, i ∉ isC)
    (kk : ∀ (r : UInt64) (u : S) (H1 : Heap) (locs1 : List Loc), post r u → va_P D cl (wr ++ w1 u) H1 → va_D A0 (wr ++ w1 u) → va_S A0 H0 H1 locs1 → W p l e R s m args below meth c H1 locs1 (cells + mc) (slots + ms) Q (F0 m (pc + 3) ls (.double r :: rest))) : W p l e R s m args below meth c H locs cells slots Q (F0 m pc ls st0) := by
  have hF := va_free (wc := wc) hD hS hA isC hC
  refine va_calld hr hS (fun q _ h => hF q h) hF (fun r u t H1 locs1 ht hvm hw hB hz1 hk1 hS1 => ?_)
  obtain ⟨hP1, hD1⟩ := hB
  rw [ht] at hP1
  obtain ⟨hP2, hD2⟩ := va_join (wr := wr) (w1 := w1 u) hP hD isC isR hC hR hn hdis hk1 hF hP1 hD1
  exact kk r u H1 locs1 hw hP2 hD2 hS1
theorem pn_mr {S : Type} {w1 : S → Nat → va_W} {post : S → Prop} (isC isR : List Nat) (hr : va_Run p l e R s m args below meth c H locs cells slots mc ms (F0 m pc ls st0) rest (va_Qr post (fun u z t => va_P D cl (w1 u z) t.heap ∧ va_D (va_A wc H.size) (w1 u z)) (va_A wc H.size) a) (va_A wc H.size)) (hS : va_S A0 H0 H locs) (hA : ∀ q, H0.size ≤ q → A0 q) (hP : va_P D cl ws H) (hD : va_D A0 ws) (hC : isC.map (fun i => ws[i]?) = wc.map some) (hR : isR.map (fun i => ws[i]?) = wr.map some) (hn : va_nd isR = true) (hdis : ∀ i ∈ isR, i ∉ isC)
    (kk : ∀ (u : S) (z : Nat) (H1 : Heap) (locs1 : List Loc), post u → va_P D cl (wr ++ w1 u z) H1 → va_D A0 (wr ++ w1 u z) → va_S A0 H0 H1 locs1 → W p l e R s m args below meth c H1 locs1 (cells + mc) (slots + ms) Q (F0 m (pc + 3) ls (.ref z :: rest))) : W p l e R s m args below meth c H locs cells slots Q (F0 m pc ls st0) := by
  have hF := va_free (wc := wc) hD hS hA isC hC
  refine va_callr hr hS (fun q _ h => hF q h) hF (fun u z t H1 locs1 ht hvm hw hB hz1 hk1 hS1 => ?_)
  obtain ⟨hP1, hD1⟩ := hB
  rw [ht] at hP1
  obtain ⟨hP2, hD2⟩ := va_join (wr := wr) (w1 := w1 u z) hP hD isC isR hC hR hn hdis hk1 hF hP1 hD1
  exact kk u z H1 locs1 hw hP2 hD2 hS1
/-- a call that writes its world wc, of which nothing is told, or throws; the rest wr stays -/
theorem pn_xm {post : Int32 → Prop} {XE : String → Prop} (isC isR : List Nat) (hr : vx_Run p l e R s m args below meth c H locs cells slots mc ms (F0 m pc ls st0) rest (va_Qi (fun r (_ : Unit) => post r) (fun _ _ => True) (va_A wc H.size) a) (vx_X (fun _ : Unit => True) (fun E _ _ => XE E) (va_A wc H.size)) (va_A wc H.size)) (hS : va_S A0 H0 H locs) (hA : ∀ q, H0.size ≤ q → A0 q) (hP : va_P D cl ws H) (hD : va_D A0 ws) (hC : isC.map (fun i => ws[i]?) = wc.map some) (hR : isR.map (fun i => ws[i]?) = wr.map some) (hn : va_nd isR = true) (hdis : ∀ i ∈ isR, i ∉ isC)
    (kx : ∀ (E : String) (ce : Cell) (q9 : Addr) (H1 : Heap) (locs1 : List Loc), XE E → va_P D cl wr H1 → va_D A0 wr → va_S A0 H0 H1 locs1 → H1[q9]? = some ce → ce.vm = .none → s.vm.findClass E = some ce.cls → vx_W p l e R s m args below meth c H1 locs1 (cells + mc) (slots + ms) Q (F0 m pc ls rest) q9)
    (kk : ∀ (r : Int32) (H1 : Heap) (locs1 : List Loc), post r → va_P D cl wr H1 → va_D A0 wr → va_S A0 H0 H1 locs1 → W p l e R s m args below meth c H1 locs1 (cells + mc) (slots + ms) Q (F0 m (pc + 3) ls (.int r :: rest))) : W p l e R s m args below meth c H locs cells slots Q (F0 m pc ls st0) := by
  have hF := va_free (wc := wc) hD hS hA isC hC
  have key : ∀ H1 : Heap, (∀ q : Nat, q < H.size → ¬ va_A wc H.size q → H1[q]? = H[q]?) → va_P D cl wr H1 ∧ va_D A0 wr := by
    intro H1 hk1
    have h9 := va_join (wr := wr) (w1 := []) (H1 := H1) hP hD isC isR hC hR hn hdis hk1 hF (fun k q h => by simp at h) ⟨fun i j p q h => by simp at h, fun k q h => by simp at h⟩
    rw [List.append_nil] at h9
    exact h9
  refine vx_calli hr hS (fun q _ h => hF q h) hF (fun q _ h => hF q h) (fun E ce q9 u t H1 locs1 ht hvm hp hB hz1 hk1 hS1 h1 h2 h3 => kx E ce q9 H1 locs1 hB (key H1 hk1).1 (key H1 hk1).2 hS1 h1 h2 h3) (fun r u t H1 locs1 ht hvm hw hB hz1 hk1 hS1 => kk r H1 locs1 hw (key H1 hk1).1 (key H1 hk1).2 hS1)
/-- thrown by a callee, not caught here -/
theorem pn_out {XE' : String → Prop} {A : Nat → Prop} {E : String} {ce : Cell} {q9 : Addr} {Qc : Array Value → State → Outcome → State → Prop} (hout : ∀ x ∈ c.exceptionTable.toList, False) (hlocks : meth.locks = false) (hS : va_S A s.heap H locs) (hE : XE' E) (h1 : H[q9]? = some ce) (h2 : ce.vm = .none) (h3 : s.vm.findClass E = some ce.cls) (hc : cells ≤ mc) (hs : slots ≤ ms) :
    vx_W p l e R s m args below meth c H locs cells slots (vx_MQ below Qc (vx_X (fun _ : Unit => True) (fun E _ _ => XE' E) A) args s mc ms A) (F0 m pc ls rest) q9 :=
  vx_out (fun x hx => (hout x hx).elim) hlocks h1 h2 h3 (fun t ht _ => ⟨(), trivial, hE, hS.F ht⟩) hS.2.2 hc hs
end PNC
theorem pn_hb1 : ∀ w ∈ (vx_atS RX4 49 "java/lang/IllegalArgumentException" ["java/lang/RuntimeException", "java/lang/Exception"]).filter (fun w => !goodWord w), w ∈ pn_ws := by decide +kernel
theorem pn_hb2 : ∀ w ∈ (vx_atS RX4 100 "java/lang/IllegalStateException" ["java/lang/RuntimeException", "java/lang/Exception"]).filter (fun w => !goodWord w), w ∈ pn_ws := by decide +kernel
theorem pn_hb3 : ∀ w ∈ (vx_atS RX4 124 "java/lang/IndexOutOfBoundsException" ["java/lang/RuntimeException", "java/lang/Exception"]).filter (fun w => !goodWord w), w ∈ pn_ws := by decide +kernel
theorem pn_on : ∀ w ∈ pn_ws, w.onTables = true := by decide +kernel
theorem pn_hg1 : ∀ w ∈ Cond.classLink RX4 45 "java/lang/IllegalArgumentException" :: Cond.initialized "java/lang/IllegalArgumentException" :: vx_atS RX4 49 "java/lang/IllegalArgumentException" ["java/lang/RuntimeException", "java/lang/Exception"], vx_ot w = true := by decide +kernel
theorem pn_hg2 : ∀ w ∈ Cond.classLink RX4 96 "java/lang/IllegalStateException" :: Cond.initialized "java/lang/IllegalStateException" :: vx_atS RX4 100 "java/lang/IllegalStateException" ["java/lang/RuntimeException", "java/lang/Exception"], vx_ot w = true := by decide +kernel
theorem pn_hg3 : ∀ w ∈ Cond.classLink RX4 120 "java/lang/IndexOutOfBoundsException" :: Cond.initialized "java/lang/IndexOutOfBoundsException" :: vx_atS RX4 124 "java/lang/IndexOutOfBoundsException" ["java/lang/RuntimeException", "java/lang/Exception"], vx_ot w = true := by decide +kernel
theorem pn_hat {args : Array Value} {s : State} {Ts L : List Cond} (hts : ∀ w ∈ Ts, w.before args s = true) (hin : ∀ w ∈ L.filter goodWord, w ∈ Ts) (hb : ∀ w ∈ L.filter (fun w => !goodWord w), w ∈ pn_ws) (hT : pn_T s) : ∀ w ∈ L, w.before args s = true :=
  vx_hat (fun w hw => hts w (hin w hw)) hb (fun w hw => va_Nw.use (pn_on w hw) (hT.1 w hw))
theorem pn_fit : Bundle.fit "java/lang/IllegalArgumentException" = true ∧ Bundle.fit "java/lang/IllegalStateException" = true ∧ Bundle.fit "java/lang/IndexOutOfBoundsException" = true ∧ ∀ n ∈ ["java/lang/RuntimeException", "java/lang/Exception"], Bundle.fit n = true := by decide +kernel
theorem pn_xF {A : Nat → Prop} {s t : State} {H : Heap} {locs : List Loc} (hS : va_S A s.heap H locs) (h1 : H.size ≤ t.heap.size) (h2 : ∀ q : Nat, q < H.size → t.heap[q]? = H[q]?) : va_F A s t :=
  ⟨Nat.le_trans hS.1 h1, fun q h3 h4 => (h2 q (Nat.lt_of_lt_of_le h3 hS.1)).trans (hS.2.1 q h3 h4)⟩
/-- plain numbers -/
theorem pn_lt (a b : Int32) : a < b ↔ a.toInt < b.toInt := Int32.lt_iff_toInt_lt
theorem pn_le (a b : Int32) : a ≤ b ↔ a.toInt ≤ b.toInt := Int32.le_iff_toInt_le
theorem pn_eq (a b : Int32) : a = b ↔ a.toInt = b.toInt := Int32.toInt_inj.symm
abbrev pn_Y (cI cZ cJ cG : ClassId) : List (ClassId × FieldType) := [(cI, .int), (cZ, .boolean), (cJ, .long), (cG, .array .int)]
theorem pn_sameI {D : va_G} {cl : List vw_C} {cI cZ cJ cG cA : ClassId} {s : State} (h : va_K D cl (pn_Y cI cZ cJ cG ++ [(cA, .int)]) s) : cI = cA := by
  have h1 : s.vm.findClass ("[" ++ FieldType.int.toString) = some cI := (h.2 0 (cI, .int) rfl).2
  have h2 : s.vm.findClass ("[" ++ FieldType.int.toString) = some cA := (h.2 4 (cA, .int) rfl).2
  exact Option.some.inj (h1.symm.trans h2)
theorem pn_sameZ {D : va_G} {cl : List vw_C} {cI cZ cJ cG cA : ClassId} {s : State} (h : va_K D cl (pn_Y cI cZ cJ cG ++ [(cA, .boolean)]) s) : cZ = cA := by
  have h1 : s.vm.findClass ("[" ++ FieldType.boolean.toString) = some cZ := (h.2 1 (cZ, .boolean) rfl).2
  have h2 : s.vm.findClass ("[" ++ FieldType.boolean.toString) = some cA := (h.2 4 (cA, .boolean) rfl).2
  exact Option.some.inj (h1.symm.trans h2)
theorem pn_sameJ {D : va_G} {cl : List vw_C} {cI cZ cJ cG cA : ClassId} {s : State} (h : va_K D cl (pn_Y cI cZ cJ cG ++ [(cA, .long)]) s) : cJ = cA := by
  have h1 : s.vm.findClass ("[" ++ FieldType.long.toString) = some cJ := (h.2 2 (cJ, .long) rfl).2
  have h2 : s.vm.findClass ("[" ++ FieldType.long.toString) = some cA := (h.2 4 (cA, .long) rfl).2
  exact Option.some.inj (h1.symm.trans h2)
theorem pn_cpyz {a b n : Nat} : va_cpy (fun _ => (0 : Int32)) (fun _ => 0) a b n = fun _ => 0 := by
  funext k
  simp [va_cpy]
theorem pn_setself {ws : va_W} {k : Nat} {q : Nat × va_E} (h : ws[k]? = some q) : ws.set k q = ws := by
  apply List.ext_getElem?
  intro i
  by_cases hi : k = i
  · subst hi
    rw [List.getElem?_set_self (by rw [List.getElem?_eq_some_iff] at h; exact h.1), h]
  · rw [List.getElem?_set_ne hi]
section PNZ
variable {p : Program} {l : Launch} {e : Env} {R : Room} {s : State} {m : MethodId} {args : Array Value} {below : List Frame} {meth : Method} {c : Code} {H : Heap} {locs : List Loc} {cells slots : Nat} {Q : State → Prop}
variable {cc : ByteArray} {pc : Nat} {ls : Array Slot} {rest : List Value} {D : va_G} {cl : List vw_C} {A : Nat → Prop} {a : Nat} {tys : List (ClassId × FieldType)} {ws : va_W} {H0 : Heap}
/-- System.arraycopy of noughts over noughts -/
theorem pn_copyz (hexec : p.tables.exec = Jvm.exec) (hb : c.code = cc) (hml : c.maxLocals = ls.size) {own : String} {index : Nat} (hown : s.vm.findClass own = some m.cls) (hlink : (Cond.methodLink own index arraycopyName).before args s = true) (hnat : (Cond.native arraycopyName).before args s = true) (hstat : (Cond.static arraycopyName).before args s = true) (hini : (Cond.initialized "java/lang/System").before args s = true)
    (hK : va_K D cl tys s) (hP : va_P D cl ws H) (hD : va_D A ws) (hS : va_S A H0 H locs) (q0 q1 t0 : Nat) {a0 : Nat} {c1 : ClassId} {n0 n1 : Nat} {ty : FieldType} (ha0 : ws[q0]? = some (a0, .inl (c1, n0, .inl (fun _ => 0)))) (ha1 : ws[q1]? = some (a, .inl (c1, n1, .inl (fun _ => 0)))) (ht0 : tys[t0]? = some (c1, ty)) (hprim : refKind ty = false) (hz : fits ty (.int 0) = true)
    {n : Int32} (h3 : ¬ n < 0) (h4 : n.toNatClampNeg ≤ n0) (h5 : n.toNatClampNeg ≤ n1)
    (hframes : 1 ≤ R.frames) (hlocals : (rest.map fun v => v.category).sum + 18 ≤ R.locals) (hdg : decode cc pc = .ok (.invokestatic index, 3))
    (kk : ∀ (H1 : Heap) (locs1 : List Loc), va_P D cl ws H1 → va_D A ws → va_S A H0 H1 locs1 → W p l e R s m args below meth c H1 locs1 cells slots Q (F0 m (pc + 3) ls rest)) : W p l e R s m args below meth c H locs cells slots Q (F0 m pc ls (.int n :: .int 0 :: .ref a :: .int 0 :: .ref a0 :: rest)) := by
  have e0 : (0 : Int32).toNatClampNeg = 0 := by decide
  refine va_copyi hexec hb hml hown hlink hnat hstat hini hK hP hD hS q0 q1 t0 t0 ha0 ha1 ht0 ht0 hprim (by decide) (by decide) h3 (by rw [e0, Nat.zero_add]; exact h4) (by rw [e0, Nat.zero_add]; exact h5) (fun i _ => hz) hframes hlocals hdg (fun H1 locs1 hP1 hD1 hS1 => ?_)
  rw [pn_cpyz, pn_setself ha1] at hP1 hD1
  exact kk H1 locs1 hP1 hD1 hS1
end PNZ

