section
-- ===== PART A: goes FIRST, ahead of the names: the tables' words, and 'selects' of the private methods out of them =====
/-- a private method of a class that the tables say can be made, by its rows of tables_1 -/
def lw_okq (q : MethodName × Nat) : Prop := (q.1.cls ≠ "java/lang/invoke/MethodHandle" ∧ q.1.cls ≠ "java/lang/invoke/VarHandle") ∧ Cond.instantiable q.1.cls q.2 ∈ tables_1 ∧ Cond.privateMethod q.1 ∈ tables_1 ∧ Cond.instanceMethod q.1 ∈ tables_1
theorem lw_p0 : lw_okq (⟨"java/lang/Throwable", "fillInStackTrace", "(I)Ljava/lang/Throwable;"⟩, 6) := ⟨⟨by decide +kernel, by decide +kernel⟩, List.mem_of_getElem? (i := 66) (by decide +kernel), List.mem_of_getElem? (i := 64) (by decide +kernel), List.mem_of_getElem? (i := 65) (by decide +kernel)⟩
theorem lw_p1 : lw_okq (⟨"VtableTown$Machine", "loadClass", "(I)I"⟩, 12) := ⟨⟨by decide +kernel, by decide +kernel⟩, List.mem_of_getElem? (i := 102) (by decide +kernel), List.mem_of_getElem? (i := 100) (by decide +kernel), List.mem_of_getElem? (i := 101) (by decide +kernel)⟩
theorem lw_p2 : lw_okq (⟨"VtableTown$Machine", "loadWhatIsNamed", "(I)I"⟩, 12) := ⟨⟨by decide +kernel, by decide +kernel⟩, List.mem_of_getElem? (i := 102) (by decide +kernel), List.mem_of_getElem? (i := 108) (by decide +kernel), List.mem_of_getElem? (i := 109) (by decide +kernel)⟩
theorem lw_p3 : lw_okq (⟨"VtableTown$Machine", "loadAs", "(IZ)I"⟩, 12) := ⟨⟨by decide +kernel, by decide +kernel⟩, List.mem_of_getElem? (i := 102) (by decide +kernel), List.mem_of_getElem? (i := 112) (by decide +kernel), List.mem_of_getElem? (i := 113) (by decide +kernel)⟩
theorem lw_p4 : lw_okq (⟨"VtableTown$Finder", "allOf", "(I)I"⟩, 5) := ⟨⟨by decide +kernel, by decide +kernel⟩, List.mem_of_getElem? (i := 122) (by decide +kernel), List.mem_of_getElem? (i := 120) (by decide +kernel), List.mem_of_getElem? (i := 121) (by decide +kernel)⟩
theorem lw_p5 : lw_okq (⟨"VtableTown$Finder", "havingMethod", "(II)I"⟩, 5) := ⟨⟨by decide +kernel, by decide +kernel⟩, List.mem_of_getElem? (i := 122) (by decide +kernel), List.mem_of_getElem? (i := 126) (by decide +kernel), List.mem_of_getElem? (i := 127) (by decide +kernel)⟩
theorem lw_p6 : lw_okq (⟨"VtableTown$Finder", "lookInLine", "(II)I"⟩, 5) := ⟨⟨by decide +kernel, by decide +kernel⟩, List.mem_of_getElem? (i := 122) (by decide +kernel), List.mem_of_getElem? (i := 133) (by decide +kernel), List.mem_of_getElem? (i := 134) (by decide +kernel)⟩
theorem lw_p7 : lw_okq (⟨"VtableTown$Finder", "lookInInterfaces", "(II)I"⟩, 5) := ⟨⟨by decide +kernel, by decide +kernel⟩, List.mem_of_getElem? (i := 122) (by decide +kernel), List.mem_of_getElem? (i := 137) (by decide +kernel), List.mem_of_getElem? (i := 138) (by decide +kernel)⟩
theorem lw_p8 : lw_okq (⟨"VtableTown$Finder", "learnSlot", "(IIZ)V"⟩, 5) := ⟨⟨by decide +kernel, by decide +kernel⟩, List.mem_of_getElem? (i := 122) (by decide +kernel), List.mem_of_getElem? (i := 141) (by decide +kernel), List.mem_of_getElem? (i := 142) (by decide +kernel)⟩
theorem lw_p9 : lw_okq (⟨"VtableTown$Machine", "becomeLoaded", "(I)V"⟩, 12) := ⟨⟨by decide +kernel, by decide +kernel⟩, List.mem_of_getElem? (i := 102) (by decide +kernel), List.mem_of_getElem? (i := 145) (by decide +kernel), List.mem_of_getElem? (i := 146) (by decide +kernel)⟩
theorem lw_p10 : lw_okq (⟨"VtableTown$Machine", "openPlaces", "(I)V"⟩, 12) := ⟨⟨by decide +kernel, by decide +kernel⟩, List.mem_of_getElem? (i := 102) (by decide +kernel), List.mem_of_getElem? (i := 149) (by decide +kernel), List.mem_of_getElem? (i := 150) (by decide +kernel)⟩
theorem lw_p11 : lw_okq (⟨"VtableTown$Machine", "turnBackLine", "(I)V"⟩, 12) := ⟨⟨by decide +kernel, by decide +kernel⟩, List.mem_of_getElem? (i := 102) (by decide +kernel), List.mem_of_getElem? (i := 158) (by decide +kernel), List.mem_of_getElem? (i := 159) (by decide +kernel)⟩
theorem lw_p12 : lw_okq (⟨"VtableTown$Machine", "turnBackPlaces", "(II)V"⟩, 12) := ⟨⟨by decide +kernel, by decide +kernel⟩, List.mem_of_getElem? (i := 102) (by decide +kernel), List.mem_of_getElem? (i := 162) (by decide +kernel), List.mem_of_getElem? (i := 163) (by decide +kernel)⟩
theorem lw_p13 : lw_okq (⟨"VtableTown$Machine", "turnBack", "(I)V"⟩, 12) := ⟨⟨by decide +kernel, by decide +kernel⟩, List.mem_of_getElem? (i := 102) (by decide +kernel), List.mem_of_getElem? (i := 166) (by decide +kernel), List.mem_of_getElem? (i := 167) (by decide +kernel)⟩
theorem lw_p14 : lw_okq (⟨"VtableTown$Machine", "makeAndCall", "(II)I"⟩, 12) := ⟨⟨by decide +kernel, by decide +kernel⟩, List.mem_of_getElem? (i := 102) (by decide +kernel), List.mem_of_getElem? (i := 185) (by decide +kernel), List.mem_of_getElem? (i := 186) (by decide +kernel)⟩
theorem lw_p15 : lw_okq (⟨"VtableTown$Machine", "initialise", "(I)V"⟩, 12) := ⟨⟨by decide +kernel, by decide +kernel⟩, List.mem_of_getElem? (i := 102) (by decide +kernel), List.mem_of_getElem? (i := 189) (by decide +kernel), List.mem_of_getElem? (i := 190) (by decide +kernel)⟩
def lw_privs_1 : List (MethodName × Nat) := [(⟨"java/lang/Throwable", "fillInStackTrace", "(I)Ljava/lang/Throwable;"⟩, 6), (⟨"VtableTown$Machine", "loadClass", "(I)I"⟩, 12), (⟨"VtableTown$Machine", "loadWhatIsNamed", "(I)I"⟩, 12), (⟨"VtableTown$Machine", "loadAs", "(IZ)I"⟩, 12), (⟨"VtableTown$Finder", "allOf", "(I)I"⟩, 5), (⟨"VtableTown$Finder", "havingMethod", "(II)I"⟩, 5), (⟨"VtableTown$Finder", "lookInLine", "(II)I"⟩, 5), (⟨"VtableTown$Finder", "lookInInterfaces", "(II)I"⟩, 5), (⟨"VtableTown$Finder", "learnSlot", "(IIZ)V"⟩, 5), (⟨"VtableTown$Machine", "becomeLoaded", "(I)V"⟩, 12), (⟨"VtableTown$Machine", "openPlaces", "(I)V"⟩, 12), (⟨"VtableTown$Machine", "turnBackLine", "(I)V"⟩, 12), (⟨"VtableTown$Machine", "turnBackPlaces", "(II)V"⟩, 12), (⟨"VtableTown$Machine", "turnBack", "(I)V"⟩, 12), (⟨"VtableTown$Machine", "makeAndCall", "(II)I"⟩, 12), (⟨"VtableTown$Machine", "initialise", "(I)V"⟩, 12)]
theorem lw_r1 : ∀ q ∈ lw_privs_1, lw_okq q := List.forall_mem_cons.mpr ⟨lw_p0, List.forall_mem_cons.mpr ⟨lw_p1, List.forall_mem_cons.mpr ⟨lw_p2, List.forall_mem_cons.mpr ⟨lw_p3, List.forall_mem_cons.mpr ⟨lw_p4, List.forall_mem_cons.mpr ⟨lw_p5, List.forall_mem_cons.mpr ⟨lw_p6, List.forall_mem_cons.mpr ⟨lw_p7, List.forall_mem_cons.mpr ⟨lw_p8, List.forall_mem_cons.mpr ⟨lw_p9, List.forall_mem_cons.mpr ⟨lw_p10, List.forall_mem_cons.mpr ⟨lw_p11, List.forall_mem_cons.mpr ⟨lw_p12, List.forall_mem_cons.mpr ⟨lw_p13, List.forall_mem_cons.mpr ⟨lw_p14, List.forall_mem_cons.mpr ⟨lw_p15, fun _ h => absurd h List.not_mem_nil⟩⟩⟩⟩⟩⟩⟩⟩⟩⟩⟩⟩⟩⟩⟩⟩
theorem lw_p16 : lw_okq (⟨"VtableTown$Machine", "runRow", "(IIII)I"⟩, 12) := ⟨⟨by decide +kernel, by decide +kernel⟩, List.mem_of_getElem? (i := 102) (by decide +kernel), List.mem_of_getElem? (i := 193) (by decide +kernel), List.mem_of_getElem? (i := 194) (by decide +kernel)⟩
theorem lw_p17 : lw_okq (⟨"VtableTown$Machine", "runStep", "(IIII)I"⟩, 12) := ⟨⟨by decide +kernel, by decide +kernel⟩, List.mem_of_getElem? (i := 102) (by decide +kernel), List.mem_of_getElem? (i := 198) (by decide +kernel), List.mem_of_getElem? (i := 199) (by decide +kernel)⟩
theorem lw_p18 : lw_okq (⟨"VtableTown$Machine", "getField", "(III)I"⟩, 12) := ⟨⟨by decide +kernel, by decide +kernel⟩, List.mem_of_getElem? (i := 102) (by decide +kernel), List.mem_of_getElem? (i := 202) (by decide +kernel), List.mem_of_getElem? (i := 203) (by decide +kernel)⟩
theorem lw_p19 : lw_okq (⟨"VtableTown$Machine", "valueAt", "(III)I"⟩, 12) := ⟨⟨by decide +kernel, by decide +kernel⟩, List.mem_of_getElem? (i := 102) (by decide +kernel), List.mem_of_getElem? (i := 206) (by decide +kernel), List.mem_of_getElem? (i := 207) (by decide +kernel)⟩
theorem lw_p20 : lw_okq (⟨"VtableTown$Machine", "putField", "(IIII)V"⟩, 12) := ⟨⟨by decide +kernel, by decide +kernel⟩, List.mem_of_getElem? (i := 102) (by decide +kernel), List.mem_of_getElem? (i := 215) (by decide +kernel), List.mem_of_getElem? (i := 216) (by decide +kernel)⟩
theorem lw_p21 : lw_okq (⟨"VtableTown$Machine", "callOwn", "(III)I"⟩, 12) := ⟨⟨by decide +kernel, by decide +kernel⟩, List.mem_of_getElem? (i := 102) (by decide +kernel), List.mem_of_getElem? (i := 219) (by decide +kernel), List.mem_of_getElem? (i := 220) (by decide +kernel)⟩
theorem lw_p22 : lw_okq (⟨"VtableTown$Machine", "callSuper", "(III)I"⟩, 12) := ⟨⟨by decide +kernel, by decide +kernel⟩, List.mem_of_getElem? (i := 102) (by decide +kernel), List.mem_of_getElem? (i := 235) (by decide +kernel), List.mem_of_getElem? (i := 236) (by decide +kernel)⟩
theorem lw_p23 : lw_okq (⟨"VtableTown$Machine", "callFound", "(IIII)I"⟩, 12) := ⟨⟨by decide +kernel, by decide +kernel⟩, List.mem_of_getElem? (i := 102) (by decide +kernel), List.mem_of_getElem? (i := 239) (by decide +kernel), List.mem_of_getElem? (i := 240) (by decide +kernel)⟩
theorem lw_p24 : lw_okq (⟨"VtableTown$Machine", "readStatic", "(I)I"⟩, 12) := ⟨⟨by decide +kernel, by decide +kernel⟩, List.mem_of_getElem? (i := 102) (by decide +kernel), List.mem_of_getElem? (i := 243) (by decide +kernel), List.mem_of_getElem? (i := 244) (by decide +kernel)⟩
theorem lw_p25 : lw_okq (⟨"VtableTown$Machine", "loadAndInitialise", "(I)V"⟩, 12) := ⟨⟨by decide +kernel, by decide +kernel⟩, List.mem_of_getElem? (i := 102) (by decide +kernel), List.mem_of_getElem? (i := 247) (by decide +kernel), List.mem_of_getElem? (i := 248) (by decide +kernel)⟩
theorem lw_p26 : lw_okq (⟨"VtableTown$Machine", "keepStatic", "(II)V"⟩, 12) := ⟨⟨by decide +kernel, by decide +kernel⟩, List.mem_of_getElem? (i := 102) (by decide +kernel), List.mem_of_getElem? (i := 251) (by decide +kernel), List.mem_of_getElem? (i := 252) (by decide +kernel)⟩
theorem lw_p27 : lw_okq (⟨"VtableTown$Machine", "isOf", "(II)I"⟩, 12) := ⟨⟨by decide +kernel, by decide +kernel⟩, List.mem_of_getElem? (i := 102) (by decide +kernel), List.mem_of_getElem? (i := 255) (by decide +kernel), List.mem_of_getElem? (i := 256) (by decide +kernel)⟩
theorem lw_p28 : lw_okq (⟨"VtableTown$Machine", "newObject", "(I)I"⟩, 12) := ⟨⟨by decide +kernel, by decide +kernel⟩, List.mem_of_getElem? (i := 102) (by decide +kernel), List.mem_of_getElem? (i := 268) (by decide +kernel), List.mem_of_getElem? (i := 269) (by decide +kernel)⟩
theorem lw_p29 : lw_okq (⟨"VtableTown$Machine", "runMakers", "(II)V"⟩, 12) := ⟨⟨by decide +kernel, by decide +kernel⟩, List.mem_of_getElem? (i := 102) (by decide +kernel), List.mem_of_getElem? (i := 272) (by decide +kernel), List.mem_of_getElem? (i := 273) (by decide +kernel)⟩
theorem lw_p30 : lw_okq (⟨"VtableTown", "checkTold", "(I)V"⟩, 4) := ⟨⟨by decide +kernel, by decide +kernel⟩, List.mem_of_getElem? (i := 286) (by decide +kernel), List.mem_of_getElem? (i := 284) (by decide +kernel), List.mem_of_getElem? (i := 285) (by decide +kernel)⟩
theorem lw_p31 : lw_okq (⟨"VtableTown", "isTold", "(I)Z"⟩, 4) := ⟨⟨by decide +kernel, by decide +kernel⟩, List.mem_of_getElem? (i := 286) (by decide +kernel), List.mem_of_getElem? (i := 289) (by decide +kernel), List.mem_of_getElem? (i := 290) (by decide +kernel)⟩
def lw_privs_2 : List (MethodName × Nat) := [(⟨"VtableTown$Machine", "runRow", "(IIII)I"⟩, 12), (⟨"VtableTown$Machine", "runStep", "(IIII)I"⟩, 12), (⟨"VtableTown$Machine", "getField", "(III)I"⟩, 12), (⟨"VtableTown$Machine", "valueAt", "(III)I"⟩, 12), (⟨"VtableTown$Machine", "putField", "(IIII)V"⟩, 12), (⟨"VtableTown$Machine", "callOwn", "(III)I"⟩, 12), (⟨"VtableTown$Machine", "callSuper", "(III)I"⟩, 12), (⟨"VtableTown$Machine", "callFound", "(IIII)I"⟩, 12), (⟨"VtableTown$Machine", "readStatic", "(I)I"⟩, 12), (⟨"VtableTown$Machine", "loadAndInitialise", "(I)V"⟩, 12), (⟨"VtableTown$Machine", "keepStatic", "(II)V"⟩, 12), (⟨"VtableTown$Machine", "isOf", "(II)I"⟩, 12), (⟨"VtableTown$Machine", "newObject", "(I)I"⟩, 12), (⟨"VtableTown$Machine", "runMakers", "(II)V"⟩, 12), (⟨"VtableTown", "checkTold", "(I)V"⟩, 4), (⟨"VtableTown", "isTold", "(I)Z"⟩, 4)]
theorem lw_r2 : ∀ q ∈ lw_privs_2, lw_okq q := List.forall_mem_cons.mpr ⟨lw_p16, List.forall_mem_cons.mpr ⟨lw_p17, List.forall_mem_cons.mpr ⟨lw_p18, List.forall_mem_cons.mpr ⟨lw_p19, List.forall_mem_cons.mpr ⟨lw_p20, List.forall_mem_cons.mpr ⟨lw_p21, List.forall_mem_cons.mpr ⟨lw_p22, List.forall_mem_cons.mpr ⟨lw_p23, List.forall_mem_cons.mpr ⟨lw_p24, List.forall_mem_cons.mpr ⟨lw_p25, List.forall_mem_cons.mpr ⟨lw_p26, List.forall_mem_cons.mpr ⟨lw_p27, List.forall_mem_cons.mpr ⟨lw_p28, List.forall_mem_cons.mpr ⟨lw_p29, List.forall_mem_cons.mpr ⟨lw_p30, List.forall_mem_cons.mpr ⟨lw_p31, fun _ h => absurd h List.not_mem_nil⟩⟩⟩⟩⟩⟩⟩⟩⟩⟩⟩⟩⟩⟩⟩⟩
theorem lw_p32 : lw_okq (⟨"VtableTown", "isPlace", "(III)Z"⟩, 4) := ⟨⟨by decide +kernel, by decide +kernel⟩, List.mem_of_getElem? (i := 286) (by decide +kernel), List.mem_of_getElem? (i := 314) (by decide +kernel), List.mem_of_getElem? (i := 315) (by decide +kernel)⟩
theorem lw_p33 : lw_okq (⟨"VtableTown", "countClasses", "([II)I"⟩, 4) := ⟨⟨by decide +kernel, by decide +kernel⟩, List.mem_of_getElem? (i := 286) (by decide +kernel), List.mem_of_getElem? (i := 328) (by decide +kernel), List.mem_of_getElem? (i := 329) (by decide +kernel)⟩
theorem lw_p34 : lw_okq (⟨"VtableTown", "countPlaces", "()I"⟩, 4) := ⟨⟨by decide +kernel, by decide +kernel⟩, List.mem_of_getElem? (i := 286) (by decide +kernel), List.mem_of_getElem? (i := 332) (by decide +kernel), List.mem_of_getElem? (i := 333) (by decide +kernel)⟩
theorem lw_p35 : lw_okq (⟨"VtableTown", "sumOfPlaces", "([I)I"⟩, 4) := ⟨⟨by decide +kernel, by decide +kernel⟩, List.mem_of_getElem? (i := 286) (by decide +kernel), List.mem_of_getElem? (i := 336) (by decide +kernel), List.mem_of_getElem? (i := 337) (by decide +kernel)⟩
theorem lw_p36 : lw_okq (⟨"VtableTown", "digestOfClass", "(JI)J"⟩, 4) := ⟨⟨by decide +kernel, by decide +kernel⟩, List.mem_of_getElem? (i := 286) (by decide +kernel), List.mem_of_getElem? (i := 375) (by decide +kernel), List.mem_of_getElem? (i := 376) (by decide +kernel)⟩
theorem lw_p37 : lw_okq (⟨"VtableTown", "isPlainAndLoaded", "(I)Z"⟩, 4) := ⟨⟨by decide +kernel, by decide +kernel⟩, List.mem_of_getElem? (i := 286) (by decide +kernel), List.mem_of_getElem? (i := 380) (by decide +kernel), List.mem_of_getElem? (i := 381) (by decide +kernel)⟩
theorem lw_p38 : lw_okq (⟨"VtableTown", "checkFinder", "(II)V"⟩, 4) := ⟨⟨by decide +kernel, by decide +kernel⟩, List.mem_of_getElem? (i := 286) (by decide +kernel), List.mem_of_getElem? (i := 388) (by decide +kernel), List.mem_of_getElem? (i := 389) (by decide +kernel)⟩
theorem lw_p39 : lw_okq (⟨"VtableTown", "digestOfPlaces", "(JI)J"⟩, 4) := ⟨⟨by decide +kernel, by decide +kernel⟩, List.mem_of_getElem? (i := 286) (by decide +kernel), List.mem_of_getElem? (i := 397) (by decide +kernel), List.mem_of_getElem? (i := 398) (by decide +kernel)⟩
theorem lw_p40 : lw_okq (⟨"VtableTown", "checkThereIsRoom", "()V"⟩, 4) := ⟨⟨by decide +kernel, by decide +kernel⟩, List.mem_of_getElem? (i := 286) (by decide +kernel), List.mem_of_getElem? (i := 752) (by decide +kernel), List.mem_of_getElem? (i := 753) (by decide +kernel)⟩
theorem lw_p41 : lw_okq (⟨"VtableTownLaw$Town", "tellMethod", "(II)Z"⟩, 26) := ⟨⟨by decide +kernel, by decide +kernel⟩, List.mem_of_getElem? (i := 402) (by decide +kernel), List.mem_of_getElem? (i := 781) (by decide +kernel), List.mem_of_getElem? (i := 782) (by decide +kernel)⟩
theorem lw_p42 : lw_okq (⟨"VtableTown", "checkToldAndName", "(II)V"⟩, 4) := ⟨⟨by decide +kernel, by decide +kernel⟩, List.mem_of_getElem? (i := 286) (by decide +kernel), List.mem_of_getElem? (i := 789) (by decide +kernel), List.mem_of_getElem? (i := 790) (by decide +kernel)⟩
theorem lw_p43 : lw_okq (⟨"VtableTown", "checkFresh", "(I)V"⟩, 4) := ⟨⟨by decide +kernel, by decide +kernel⟩, List.mem_of_getElem? (i := 286) (by decide +kernel), List.mem_of_getElem? (i := 795) (by decide +kernel), List.mem_of_getElem? (i := 796) (by decide +kernel)⟩
theorem lw_p44 : lw_okq (⟨"VtableTownLaw$Town", "tellStep", "(II)Z"⟩, 26) := ⟨⟨by decide +kernel, by decide +kernel⟩, List.mem_of_getElem? (i := 402) (by decide +kernel), List.mem_of_getElem? (i := 809) (by decide +kernel), List.mem_of_getElem? (i := 810) (by decide +kernel)⟩
theorem lw_p45 : lw_okq (⟨"VtableTown", "checkRowHasRoom", "(I)V"⟩, 4) := ⟨⟨by decide +kernel, by decide +kernel⟩, List.mem_of_getElem? (i := 286) (by decide +kernel), List.mem_of_getElem? (i := 833) (by decide +kernel), List.mem_of_getElem? (i := 834) (by decide +kernel)⟩
theorem lw_p46 : lw_okq (⟨"VtableTownLaw$Town", "direct", "()[Z"⟩, 26) := ⟨⟨by decide +kernel, by decide +kernel⟩, List.mem_of_getElem? (i := 402) (by decide +kernel), List.mem_of_getElem? (i := 867) (by decide +kernel), List.mem_of_getElem? (i := 868) (by decide +kernel)⟩
theorem lw_p47 : lw_okq (⟨"VtableTownLaw$Town", "isBelowAnother", "([ZII)Z"⟩, 26) := ⟨⟨by decide +kernel, by decide +kernel⟩, List.mem_of_getElem? (i := 402) (by decide +kernel), List.mem_of_getElem? (i := 884) (by decide +kernel), List.mem_of_getElem? (i := 885) (by decide +kernel)⟩
def lw_privs_3 : List (MethodName × Nat) := [(⟨"VtableTown", "isPlace", "(III)Z"⟩, 4), (⟨"VtableTown", "countClasses", "([II)I"⟩, 4), (⟨"VtableTown", "countPlaces", "()I"⟩, 4), (⟨"VtableTown", "sumOfPlaces", "([I)I"⟩, 4), (⟨"VtableTown", "digestOfClass", "(JI)J"⟩, 4), (⟨"VtableTown", "isPlainAndLoaded", "(I)Z"⟩, 4), (⟨"VtableTown", "checkFinder", "(II)V"⟩, 4), (⟨"VtableTown", "digestOfPlaces", "(JI)J"⟩, 4), (⟨"VtableTown", "checkThereIsRoom", "()V"⟩, 4), (⟨"VtableTownLaw$Town", "tellMethod", "(II)Z"⟩, 26), (⟨"VtableTown", "checkToldAndName", "(II)V"⟩, 4), (⟨"VtableTown", "checkFresh", "(I)V"⟩, 4), (⟨"VtableTownLaw$Town", "tellStep", "(II)Z"⟩, 26), (⟨"VtableTown", "checkRowHasRoom", "(I)V"⟩, 4), (⟨"VtableTownLaw$Town", "direct", "()[Z"⟩, 26), (⟨"VtableTownLaw$Town", "isBelowAnother", "([ZII)Z"⟩, 26)]
theorem lw_r3 : ∀ q ∈ lw_privs_3, lw_okq q := List.forall_mem_cons.mpr ⟨lw_p32, List.forall_mem_cons.mpr ⟨lw_p33, List.forall_mem_cons.mpr ⟨lw_p34, List.forall_mem_cons.mpr ⟨lw_p35, List.forall_mem_cons.mpr ⟨lw_p36, List.forall_mem_cons.mpr ⟨lw_p37, List.forall_mem_cons.mpr ⟨lw_p38, List.forall_mem_cons.mpr ⟨lw_p39, List.forall_mem_cons.mpr ⟨lw_p40, List.forall_mem_cons.mpr ⟨lw_p41, List.forall_mem_cons.mpr ⟨lw_p42, List.forall_mem_cons.mpr ⟨lw_p43, List.forall_mem_cons.mpr ⟨lw_p44, List.forall_mem_cons.mpr ⟨lw_p45, List.forall_mem_cons.mpr ⟨lw_p46, List.forall_mem_cons.mpr ⟨lw_p47, fun _ h => absurd h List.not_mem_nil⟩⟩⟩⟩⟩⟩⟩⟩⟩⟩⟩⟩⟩⟩⟩⟩
theorem lw_p48 : lw_okq (⟨"VtableTownLaw$Town", "makes", "(II)I"⟩, 26) := ⟨⟨by decide +kernel, by decide +kernel⟩, List.mem_of_getElem? (i := 402) (by decide +kernel), List.mem_of_getElem? (i := 892) (by decide +kernel), List.mem_of_getElem? (i := 893) (by decide +kernel)⟩
theorem lw_p49 : lw_okq (⟨"VtableTownLaw$Town", "fails", "(I)I"⟩, 26) := ⟨⟨by decide +kernel, by decide +kernel⟩, List.mem_of_getElem? (i := 402) (by decide +kernel), List.mem_of_getElem? (i := 896) (by decide +kernel), List.mem_of_getElem? (i := 897) (by decide +kernel)⟩
theorem lw_p50 : lw_okq (⟨"VtableTownLaw$Town", "wakes", "(I)V"⟩, 26) := ⟨⟨by decide +kernel, by decide +kernel⟩, List.mem_of_getElem? (i := 402) (by decide +kernel), List.mem_of_getElem? (i := 900) (by decide +kernel), List.mem_of_getElem? (i := 901) (by decide +kernel)⟩
theorem lw_p51 : lw_okq (⟨"VtableTownLaw$Town", "go", "(II[[II)I"⟩, 26) := ⟨⟨by decide +kernel, by decide +kernel⟩, List.mem_of_getElem? (i := 402) (by decide +kernel), List.mem_of_getElem? (i := 904) (by decide +kernel), List.mem_of_getElem? (i := 905) (by decide +kernel)⟩
theorem lw_p52 : lw_okq (⟨"VtableTownLaw$Town", "does", "(III[[II)I"⟩, 26) := ⟨⟨by decide +kernel, by decide +kernel⟩, List.mem_of_getElem? (i := 402) (by decide +kernel), List.mem_of_getElem? (i := 911) (by decide +kernel), List.mem_of_getElem? (i := 912) (by decide +kernel)⟩
theorem lw_p53 : lw_okq (⟨"VtableTownLaw$Town", "calls", "(II[[I)I"⟩, 26) := ⟨⟨by decide +kernel, by decide +kernel⟩, List.mem_of_getElem? (i := 402) (by decide +kernel), List.mem_of_getElem? (i := 915) (by decide +kernel), List.mem_of_getElem? (i := 916) (by decide +kernel)⟩
theorem lw_p54 : lw_okq (⟨"VtableTownLaw$Town", "raise", "(I[[I)V"⟩, 26) := ⟨⟨by decide +kernel, by decide +kernel⟩, List.mem_of_getElem? (i := 402) (by decide +kernel), List.mem_of_getElem? (i := 922) (by decide +kernel), List.mem_of_getElem? (i := 923) (by decide +kernel)⟩
def lw_privs_4 : List (MethodName × Nat) := [(⟨"VtableTownLaw$Town", "makes", "(II)I"⟩, 26), (⟨"VtableTownLaw$Town", "fails", "(I)I"⟩, 26), (⟨"VtableTownLaw$Town", "wakes", "(I)V"⟩, 26), (⟨"VtableTownLaw$Town", "go", "(II[[II)I"⟩, 26), (⟨"VtableTownLaw$Town", "does", "(III[[II)I"⟩, 26), (⟨"VtableTownLaw$Town", "calls", "(II[[I)I"⟩, 26), (⟨"VtableTownLaw$Town", "raise", "(I[[I)V"⟩, 26)]
theorem lw_r4 : ∀ q ∈ lw_privs_4, lw_okq q := List.forall_mem_cons.mpr ⟨lw_p48, List.forall_mem_cons.mpr ⟨lw_p49, List.forall_mem_cons.mpr ⟨lw_p50, List.forall_mem_cons.mpr ⟨lw_p51, List.forall_mem_cons.mpr ⟨lw_p52, List.forall_mem_cons.mpr ⟨lw_p53, List.forall_mem_cons.mpr ⟨lw_p54, fun _ h => absurd h List.not_mem_nil⟩⟩⟩⟩⟩⟩⟩
def lw_privs : List (MethodName × Nat) := lw_privs_1 ++ (lw_privs_2 ++ (lw_privs_3 ++ (lw_privs_4)))
def lw_tbl : List Cond := k2_sels lw_privs ++ tables_1
theorem lw_privs_ok : ∀ q ∈ lw_privs, lw_okq q := by
  show ∀ q ∈ lw_privs_1 ++ (lw_privs_2 ++ (lw_privs_3 ++ (lw_privs_4))), lw_okq q
  exact List.forall_mem_append.mpr ⟨lw_r1, List.forall_mem_append.mpr ⟨lw_r2, List.forall_mem_append.mpr ⟨lw_r3, lw_r4⟩⟩⟩
/-- the streams that the claim lets the run draw from -/
abbrev lw_cs : List Choice := [Jvm.Choice.named "NaN.bits"]
theorem lw_bits : nanBits ∈ lw_cs := by first | decide | exact List.mem_cons_self | simp [lw_cs, nanBits]
-- ===== end of PART A; then your names; then what follows =====
end
section
/-! ===== BEGIN words of one list among another's, by their places ===== -/
theorem goodIn_r {big : List Cond} (ws : List Cond) (ps : List Nat) (hp : ws = ps.filterMap (fun i => big[i]?)) (h : ws.all goodWord = true) : GoodIn big ws := by
  intro w hw
  have h1 := List.all_eq_true.mp h w hw
  rw [hp] at hw
  obtain ⟨i, -, hi⟩ := List.mem_filterMap.mp hw
  have hm : w ∈ big := by first | exact List.mem_of_getElem? hi | exact List.getElem?_mem hi
  exact ⟨hm, good_of_word h1⟩
theorem goodIn_app {big a b : List Cond} (ha : GoodIn big a) (hb : GoodIn big b) : GoodIn big (a ++ b) := fun w h => (List.mem_append.mp h).elim (ha w) (hb w)
theorem goodIn_ca {big a b : List Cond} {c : Cond} (ha : GoodIn big (c :: a)) (hb : GoodIn big b) : GoodIn big (c :: (a ++ b)) := fun w h => (List.mem_cons.mp h).elim (fun e => ha w (List.mem_cons.mpr (Or.inl e))) (fun h => (List.mem_append.mp h).elim (fun h => ha w (List.mem_cons.mpr (Or.inr h))) (hb w))
theorem goodIn_sub {big ws : List Cond} (hm : ∀ w ∈ ws, w ∈ big) (h : ws.all goodWord = true) : GoodIn big ws := fun w hw => ⟨hm w hw, good_of_word (List.all_eq_true.mp h w hw)⟩
/-! ===== END ===== -/


/-! ===== BEGIN exceptions that leave a method, and their catching by the caller (launches without stack traces) ===== -/
section VXA
/-! The laws vx_back, vx_callV, vx_callS, vx_callSW, vx_throw0, vx_throwS follow proofs of the library, with one case more: JvmDerived/Free/Laws.lean (Back.of_free), Shelf42/LK1.lean (callV, callS), Shelf/KitTraced.lean (throwNew0V, throwNewS). -/
/-- where a method has thrown q: the class by its name, the cell, what was written, the world -/
def vx_T (XC : String → State → State → Prop) (st : State) (q : Addr) (t : State) (mc ms : Nat) (free : Addr → Prop) : Prop :=
  ∃ (E : String) (ce : Cell) (L : List Loc), XC E st t ∧ t.heap[q]? = some ce ∧ ce.vm = .none ∧ st.vm.findClass E = some ce.cls ∧ st.WarmedH t.vm ∧ st.sameButNew ({ t with vm := st.vm } : State) L mc ms ∧ ∀ z ∈ L, free z.base
def vx_Q (Qc : Array Value → State → Outcome → State → Prop) (XC : String → State → State → Prop) (mc ms : Nat) (free : Addr → Prop) : Array Value → State → Outcome → State → Prop := fun a st o t =>
  (Qc a st o t ∧ ∃ L, FrameEnd st o t L mc ms ∧ ∀ q ∈ L, free q.base) ∨ ∃ q, o = .threw q ∧ vx_T XC st q t mc ms free
/-- a callee that returns or throws -/
def vx_Met (l : Launch) (y : MethodName) (ws : List Cond) (rm : Room) (Pc : Array Value → State → Prop) (Qc : Array Value → State → Outcome → State → Prop) (XC : String → State → State → Prop) (mc ms : Nat) (free : Addr → Prop) : Prop :=
  MetFree l y (headSpec ws rm) Pc (fun _ _ _ _ _ => True) (vx_Q Qc XC mc ms free)
def vx_Post (XC : String → State → State → Prop) (mc ms : Nat) (free : Addr → Prop) : Pt → Array Value → Addr → Pt → Prop := fun A a q B =>
  ∃ (g : JFrame) (mk : MethodId) (t : State) (L : List Loc) (E : String) (ce : Cell), B.U.heap = t.heap ∧ B.U.vm = t.vm ∧ XC E (A.U.calling g mk a) t ∧ t.heap[q]? = some ce ∧ ce.vm = .none ∧ A.U.vm.findClass E = some ce.cls ∧ B.locs = A.locs ++ L ∧ (∀ z ∈ L, free z.base) ∧ B.cells = A.cells + mc ∧ B.slots = A.slots + ms
def vx_Back (l : Launch) (R : Room) (p : Program) (e : Env) (below : List Frame) (s : State) (sargs : Array Value) (y : MethodName) (len W9 : Nat)
    (Pre : Pt → Array Value → Prop) (Post : Pt → Array Value → Option Value → Pt → Prop) (PostX : Pt → Array Value → Addr → Pt → Prop) : Prop :=
  ∀ (m : MethodId) (meth : Method) (c : Code) (A : Pt) (g : JFrame) (ig : Instr) (mk : MethodId) (a : Array Value),
    Stand p l e R s m sargs below meth c A.U A.locs A.cells A.slots → g.method = m → g.locals.size = c.maxLocals → decode c.code g.pc = .ok (ig, len) →
    2 * g.monitorRoom + (g.stack.map fun v => v.category).sum ≤ W9 → A.U.methodNamed? y = some mk → Pre A a →
    (∃ (v : Option Value) (B : Pt), Stand p l e R s m sargs below meth c B.U B.locs B.cells B.slots ∧ Post A a v B ∧
      Steps p.tables e below (doInvoke e (A.U.setTop g) [] mk a).1 (B.U.setTop { g with pc := g.pc + len, stack := v.toList ++ g.stack })) ∨
    (∃ (q : Addr) (B : Pt), Stand p l e R s m sargs below meth c B.U B.locs B.cells B.slots ∧ PostX A a q B ∧
      Steps p.tables e below (doInvoke e (A.U.setTop g) [] mk a).1 ((B.U.setTop g).pushFrame (.throwing q)))
section Payer
variable {l : Launch} {R : Room} {p : Program} {e : Env} {below : List Frame} {s : State} {sargs : Array Value} {y : MethodName} {len W9 : Nat}
theorem vx_back {ws : List Cond} {rm : Room} {Pc : Array Value → State → Prop} {Qc : Array Value → State → Outcome → State → Prop} {XC : String → State → State → Prop} {mc ms : Nat} {free : Addr → Prop} {bytes : ByteArray} {maxL : Nat} {ret : Option FieldType}
    (hM : vx_Met l y ws rm Pc Qc XC mc ms free) (hblind : FrameBlind Pc) (hrc : rm.cells = mc) (hrs : rm.slots = ms)
    (hframes : rm.frames + 1 ≤ R.frames) (hlocals : W9 + (maxL + 11) + rm.locals ≤ R.locals)
    (hws : ∀ w ∈ ws, ∀ a' U, s.WarmedH U.vm → w.before a' U = true) (hcode : Cond.code y bytes maxL ret ∈ ws) (hinit : ∀ a' U, s.WarmedH U.vm → (Cond.initialized y.cls).before a' U = true) :
    vx_Back l R p e below s sargs y len W9 (PreOf R mc ms Pc) (PostOf Qc mc ms free) (vx_Post XC mc ms free) := by
  intro m meth c A g ig mk a X hg hsize hdg hW hn hp
  have h1 : (headSpec ws rm).pre.before a A.U = true := atoms_intro fun w hw => hws w hw _ _ X.warmed
  have h2 : (Cond.code y bytes maxL ret).before a A.U = true := hws _ hcode _ _ X.warmed
  have h3 : (Cond.initialized y.cls).before a A.U = true := hinit _ _ X.warmed
  have h4 : A.cells + (headSpec ws rm).room.cells ≤ R.cells := by rw [show (headSpec ws rm).room.cells = mc from hrc]; exact hp.1
  have h5 : A.slots + (headSpec ws rm).room.slots ≤ R.slots := by rw [show (headSpec ws rm).room.slots = ms from hrs]; exact hp.2.1
  have hPc : Pc a (A.U.calling g mk a) := hblind _ _ _ _ hp.2.2
  obtain ⟨U, Ls, c0, s0⟩ := A
  dsimp only [Pt.U, Pt.locs, Pt.cells, Pt.slots] at h1 h2 h3 h4 h5 X hn hPc ⊢
  obtain ⟨methY, cY, hmY, hcY, -, hlY, -, -, -, -⟩ := Cond.code_spec hn h2
  obtain ⟨kY, hkY, -⟩ := className_of_methodNamed hn
  have hinitY : kY.init = .initialized := Cond.initialized_spec (findClass_of_methodNamed hn) hkY h3
  have h : At U g.method c below := by rw [hg]; exact X.here
  have hlocals9 : W9 + (maxL + 11) + (headSpec ws rm).room.locals ≤ R.locals := hlocals
  have happ : (headSpec ws rm).appliesLoose y e.platform (U.calling g mk a) = true :=
    Spec.appliesLoose_calling (g := g) h hdg hn hkY hinitY
      (X.room_calling (g := g) (R' := (headSpec ws rm).room) hsize hmY hcY hframes (by rw [hlY]; omega) h4 h5) h1
  obtain ⟨mid, hmid⟩ := h.above
  have hfr : (U.setTop g).frames = (.java g :: mid) ++ below := by rw [State.frames_setTop' g h.top, hmid]; rfl
  obtain ⟨o, s₂, hsteps, -, hend, hq⟩ := Steps.callFree hM p X.admits X.cas X.clock (acts := []) hfr happ hPc trivial
  have hq' : vx_Q Qc XC mc ms free a (U.calling g mk a) o s₂ := hq
  rw [State.frames_setTop' g h.top] at hend
  obtain ⟨g₀, hg0⟩ := Option.isSome_iff_exists.mp h.top
  obtain ⟨r, hr⟩ := State.topJava?_eq_some.mp hg0
  have hr' : (({ U with heap := s₂.heap, slotsUsed := s₂.slotsUsed } : State).setVm s₂.vm).frames = .java g₀ :: r := hr
  rcases hq' with ⟨hqc, L, hfe, hL⟩ | ⟨q, rfl, E, ce, L, hx, hce, hcv, hcl, hW₂, hsm, hL⟩
  · obtain ⟨⟨v, rfl⟩, hW₂, e2, q2, q3, q4, q5, q6⟩ := id hfe
    have e3 : s₂ = ({ (U.calling g mk a).setFrames s₂.frames with heap := s₂.heap, slotsUsed := s₂.slotsUsed } : State).setVm s₂.vm := by
      have : s₂ = ({ s₂ with vm := (U.calling g mk a).vm } : State).setVm s₂.vm := rfl
      rw [e2] at this
      exact this
    obtain ⟨c₂, i₂, len₂, hc₂, hd₂, hf₂⟩ := hend
    have hW' : U.WarmedH s₂.vm := hW₂
    have hcc : c₂ = c := by
      have h1 : s₂.code? g.method = U.code? g.method := by
        rw [State.code?_eq, State.code?_eq, hW'.alike.method?]
      exact Option.some.inj (hc₂.symm.trans (h1.trans h.code))
    subst hcc
    have hlen : len₂ = len := by rw [hdg] at hd₂; cases hd₂; rfl
    subst hlen
    have hs₂ : s₂ = (({ U with heap := s₂.heap, slotsUsed := s₂.slotsUsed } : State).setVm s₂.vm).setTop { g with pc := g.pc + len₂, stack := v.toList ++ g.stack } := by
      refine e3.trans ?_
      rw [hf₂, State.calling_eq h.top, State.setFrames_setFrames, State.setTop_of_frames _ hr', hr]
      rfl
    have hsame : U.sameButNew ({ U with heap := s₂.heap, slotsUsed := s₂.slotsUsed } : State) L mc ms := by
      refine ⟨?_, q2, q3, q4, q5, q6⟩
      obtain ⟨t, ht, -⟩ := State.frames_cons hr
      show ({ U with heap := s₂.heap, slotsUsed := s₂.slotsUsed } : State) = { U.setFrames U.frames with heap := s₂.heap, slotsUsed := s₂.slotsUsed }
      rw [State.setFrames_self ht]
    subst hg
    refine Or.inl ⟨v, ⟨(({ U with heap := s₂.heap, slotsUsed := s₂.slotsUsed } : State).setVm s₂.vm), Ls ++ L, c0 + mc, s0 + ms⟩,
      ⟨X.admits, X.cas, X.clock, X.frames, X.room, X.hears, X.method, X.code, (X.here.setHeapUsed s₂.heap s₂.slotsUsed).setVm hW'.alike, X.tail, State.WarmedH.trans X.warmed hW', X.limits, X.bytes, X.same.trans (hsame.setVm s.vm)⟩,
      ⟨g, mk, s₂, L, rfl, rfl, hqc, rfl, hL, rfl, rfl⟩, ?_⟩
    show Steps p.tables e below _ ((({ U with heap := s₂.heap, slotsUsed := s₂.slotsUsed } : State).setVm s₂.vm).setTop { g with pc := g.pc + len₂, stack := v.toList ++ g.stack })
    rw [← hs₂]
    exact hsteps
  · obtain ⟨e2, q2, q3, q4, q5, q6⟩ := id hsm
    have e3 : s₂ = ({ (U.calling g mk a).setFrames s₂.frames with heap := s₂.heap, slotsUsed := s₂.slotsUsed } : State).setVm s₂.vm := by
      have : s₂ = ({ s₂ with vm := (U.calling g mk a).vm } : State).setVm s₂.vm := rfl
      rw [e2] at this
      exact this
    have hf₂ : s₂.frames = .throwing q :: .java g :: U.frames.tail := hend
    have hW' : U.WarmedH s₂.vm := hW₂
    have hs₂ : s₂ = ((({ U with heap := s₂.heap, slotsUsed := s₂.slotsUsed } : State).setVm s₂.vm).setTop g).pushFrame (.throwing q) := by
      refine e3.trans ?_
      rw [hf₂, State.calling_eq h.top, State.setFrames_setFrames, State.pushFrame, State.frames_setTop _ hr', State.setTop_of_frames _ hr', State.setFrames_setFrames, hr]
      rfl
    have hsame : U.sameButNew ({ U with heap := s₂.heap, slotsUsed := s₂.slotsUsed } : State) L mc ms := by
      refine ⟨?_, q2, q3, q4, q5, q6⟩
      obtain ⟨t, ht, -⟩ := State.frames_cons hr
      show ({ U with heap := s₂.heap, slotsUsed := s₂.slotsUsed } : State) = { U.setFrames U.frames with heap := s₂.heap, slotsUsed := s₂.slotsUsed }
      rw [State.setFrames_self ht]
    subst hg
    refine Or.inr ⟨q, ⟨(({ U with heap := s₂.heap, slotsUsed := s₂.slotsUsed } : State).setVm s₂.vm), Ls ++ L, c0 + mc, s0 + ms⟩,
      ⟨X.admits, X.cas, X.clock, X.frames, X.room, X.hears, X.method, X.code, (X.here.setHeapUsed s₂.heap s₂.slotsUsed).setVm hW'.alike, X.tail, State.WarmedH.trans X.warmed hW', X.limits, X.bytes, X.same.trans (hsame.setVm s.vm)⟩,
      ⟨g, mk, s₂, L, E, ce, rfl, rfl, hx, hce, hcv, hcl, rfl, hL, rfl, rfl⟩, ?_⟩
    show Steps p.tables e below _ (((({ U with heap := s₂.heap, slotsUsed := s₂.slotsUsed } : State).setVm s₂.vm).setTop g).pushFrame (.throwing q))
    rw [← hs₂]
    exact hsteps
end Payer
section Calls
variable {p : Program} {l : Launch} {e : Env} {R : Room} {s : State} {m : MethodId} {args : Array Value} {below : List Frame} {meth : Method} {c : Code} {T : State} {locs : List Loc} {cells slots : Nat}
theorem vx_callV (X : Stand p l e R s m args below meth c T locs cells slots) (hexec : p.tables.exec = Jvm.exec) {own C : String} {index : Nat} {y : MethodName} {bytes : ByteArray} {maxL : Nat} {ret : Option FieldType}
    (hown : s.vm.findClass own = some m.cls) (hlink : (Cond.methodLink own index y).before args s = true) (hinst : (Cond.instanceMethod y).before args s = true) (hsel : (Cond.selects C y y).before args s = true)
    (hcode : (Cond.code y bytes maxL ret).before args s = true) (hy : y.cls ≠ "java/lang/invoke/MethodHandle" ∧ y.cls ≠ "java/lang/invoke/VarHandle")
    {W9 : Nat} {Pre : Pt → Array Value → Prop} {Post : Pt → Array Value → Option Value → Pt → Prop} {PostX : Pt → Array Value → Addr → Pt → Prop} (hK : vx_Back l R p e below s args y 3 W9 Pre Post PostX)
    {b : Addr} {cellB : Cell} (hcell : T.heap[b]? = some cellB) (hobj : cellB.vm.isStatics = false) (hcls : s.vm.findClass C = some cellB.cls)
    {g : JFrame} (hg : g.method = m) (hsize : g.locals.size = c.maxLocals) {argsL rest : List Value} (hlen : ∀ sig, parseMethodDescriptor y.desc = some sig → argsL.length = sig.parameters.length)
    (hstack : g.stack = argsL.reverse ++ .ref b :: rest) (hW : 2 * g.monitorRoom + (rest.map fun v => v.category).sum ≤ W9) (hdg : decode c.code g.pc = .ok (.invokevirtual index, 3))
    (hpre : ∀ vm₁, s.WarmedH vm₁ → Pre ⟨T.setVm vm₁, locs, cells, slots⟩ (Value.ref b :: argsL).toArray) :
    (∃ (v : Option Value) (vm₁ : Vm) (B : Pt), s.WarmedH vm₁ ∧ Stand p l e R s m args below meth c B.U B.locs B.cells B.slots ∧ Post ⟨T.setVm vm₁, locs, cells, slots⟩ (Value.ref b :: argsL).toArray v B ∧
      ∀ target, Steps p.tables e below (B.U.setTop { g with pc := g.pc + 3, stack := v.toList ++ rest }) target → Steps p.tables e below (T.setTop g) target) ∨
    (∃ (q : Addr) (vm₁ : Vm) (B : Pt), s.WarmedH vm₁ ∧ Stand p l e R s m args below meth c B.U B.locs B.cells B.slots ∧ PostX ⟨T.setVm vm₁, locs, cells, slots⟩ (Value.ref b :: argsL).toArray q B ∧
      Steps p.tables e below (T.setTop g) ((B.U.setTop { g with stack := rest }).pushFrame (.throwing q))) := by
  obtain ⟨mk, methM, hnamed, hmethM, hstM, habM⟩ := Cond.instanceMethod_spec hinst
  obtain ⟨methM', cM, hmethM', -, -, -, -, -, -, hsigM⟩ := Cond.code_spec hnamed hcode
  cases hmethM.symm.trans hmethM'
  obtain ⟨c2, r2, m2, q1, q2, q3, q4, kP, hkP, hkPi⟩ := Cond.selects_spec hsel
  cases hcls.symm.trans q1
  cases (State.methodFound?_of_named hnamed hy).symm.trans q2
  cases hnamed.symm.trans q3
  have hselP : selectMethod e.platform s.vm cellB.cls mk = .method mk := by rw [Launch.admits_selectMethod X.admits]; exact q4
  obtain ⟨vm₁, X₁, hstep₁⟩ := X.invokevirtual hexec hown hlink hnamed hmethM hstM hkP hkPi hy (a := b) (cell := cellB) hcell
    (fun z h => by rw [h] at hobj; cases hobj) hselP hmethM habM hkP hkPi (g := g) hg (argsL := argsL) (rest := rest) (hlen _ hsigM) hstack hdg
  rcases hK m meth c ⟨T.setVm vm₁, locs, cells, slots⟩ { g with stack := rest } (.invokevirtual index) mk (Value.ref b :: argsL).toArray X₁ hg hsize hdg hW (X₁.named hnamed) (hpre vm₁ X₁.warmed) with ⟨v, B, X', hpost, hsteps⟩ | ⟨q, B, X', hpost, hsteps⟩
  · exact Or.inl ⟨v, vm₁, B, X₁.warmed, X', hpost, fun target h => hstep₁ _ fun acts => by rw [doInvoke_state]; exact hsteps.trans h⟩
  · exact Or.inr ⟨q, vm₁, B, X₁.warmed, X', hpost, hstep₁ _ fun acts => by rw [doInvoke_state]; exact hsteps⟩
theorem vx_callS (X : Stand p l e R s m args below meth c T locs cells slots) (hexec : p.tables.exec = Jvm.exec) {own : String} {index : Nat} {y : MethodName} {bytes : ByteArray} {maxL : Nat} {ret : Option FieldType}
    (hown : s.vm.findClass own = some m.cls) (hlink : (Cond.methodLink own index y).before args s = true) (hstat : (Cond.static y).before args s = true) (hinit : (Cond.initialized y.cls).before args s = true)
    (hcode : (Cond.code y bytes maxL ret).before args s = true) (hy : y.cls ≠ "java/lang/invoke/MethodHandle" ∧ y.cls ≠ "java/lang/invoke/VarHandle")
    {W9 : Nat} {Pre : Pt → Array Value → Prop} {Post : Pt → Array Value → Option Value → Pt → Prop} {PostX : Pt → Array Value → Addr → Pt → Prop} (hK : vx_Back l R p e below s args y 3 W9 Pre Post PostX)
    {g : JFrame} (hg : g.method = m) (hsize : g.locals.size = c.maxLocals) {argsL rest : List Value} (hlen : ∀ sig, parseMethodDescriptor y.desc = some sig → argsL.length = sig.parameters.length)
    (hstack : g.stack = argsL.reverse ++ rest) (hW : 2 * g.monitorRoom + (rest.map fun v => v.category).sum ≤ W9) (hdg : decode c.code g.pc = .ok (.invokestatic index, 3))
    (hpre : ∀ vm₁, s.WarmedH vm₁ → Pre ⟨T.setVm vm₁, locs, cells, slots⟩ argsL.toArray) :
    (∃ (v : Option Value) (vm₁ : Vm) (B : Pt), s.WarmedH vm₁ ∧ Stand p l e R s m args below meth c B.U B.locs B.cells B.slots ∧ Post ⟨T.setVm vm₁, locs, cells, slots⟩ argsL.toArray v B ∧
      ∀ target, Steps p.tables e below (B.U.setTop { g with pc := g.pc + 3, stack := v.toList ++ rest }) target → Steps p.tables e below (T.setTop g) target) ∨
    (∃ (q : Addr) (vm₁ : Vm) (B : Pt), s.WarmedH vm₁ ∧ Stand p l e R s m args below meth c B.U B.locs B.cells B.slots ∧ PostX ⟨T.setVm vm₁, locs, cells, slots⟩ argsL.toArray q B ∧
      Steps p.tables e below (T.setTop g) ((B.U.setTop { g with stack := rest }).pushFrame (.throwing q))) := by
  obtain ⟨mk, hnamed⟩ := Cond.code_named hcode
  obtain ⟨methM, cM, hmethM, -, -, -, -, -, -, hsigM⟩ := Cond.code_spec hnamed hcode
  have hstatic : methM.isStatic = true := Cond.static_spec hnamed hmethM hstat
  obtain ⟨kP, hkP, -⟩ := className_of_methodNamed hnamed
  have hinitP : kP.init = .initialized := Cond.initialized_spec (findClass_of_methodNamed hnamed) hkP hinit
  obtain ⟨vm₁, X₁, hstep₁⟩ := X.invokestatic hexec hown hlink hnamed hmethM hstatic hkP hinitP hy (g := g) hg (argsL := argsL) (rest := rest) (hlen _ hsigM) hstack hdg
  rcases hK m meth c ⟨T.setVm vm₁, locs, cells, slots⟩ { g with stack := rest } (.invokestatic index) mk argsL.toArray X₁ hg hsize hdg hW (X₁.named hnamed) (hpre vm₁ X₁.warmed) with ⟨v, B, X', hpost, hsteps⟩ | ⟨q, B, X', hpost, hsteps⟩
  · exact Or.inl ⟨v, vm₁, B, X₁.warmed, X', hpost, fun target h => hstep₁ _ fun acts => by rw [doInvoke_state]; exact hsteps.trans h⟩
  · exact Or.inr ⟨q, vm₁, B, X₁.warmed, X', hpost, hstep₁ _ fun acts => by rw [doInvoke_state]; exact hsteps⟩
end Calls
theorem vx_cls {s : State} {T : State} {vm₁ : Vm} {E : String} {k : ClassId} (hW : s.WarmedH vm₁) (h : (T.setVm vm₁).vm.findClass E = some k) : s.vm.findClass E = some k := by
  have h1 : vm₁.findClass E = some k := h
  rw [hW.alike.findClass] at h1
  exact h1
/-- the method's frame g, with q thrown over it -/
def vx_W (p : Program) (l : Launch) (e : Env) (R : Room) (s : State) (m : MethodId) (args : Array Value) (below : List Frame) (meth : Method) (c : Code) (H : Heap) (locs : List Loc) (cells slots : Nat) (Q : State → Prop) (g : JFrame) (q : Addr) : Prop :=
  ∀ T : State, T.heap = H → Stand p l e R s m args below meth c T locs cells slots → ∃ t, Steps p.tables e below ((T.setTop g).pushFrame (.throwing q)) t ∧ Q t
def vx_Run (p : Program) (l : Launch) (e : Env) (R : Room) (s : State) (m : MethodId) (args : Array Value) (below : List Frame) (meth : Method) (c : Code) (H : Heap) (locs : List Loc) (cells slots mc ms : Nat) (g : JFrame) (rest : List Value) (Qa : State → Outcome → State → Prop) (XC : String → State → State → Prop) (free : Addr → Prop) : Prop :=
  ∀ T : State, T.heap = H → Stand p l e R s m args below meth c T locs cells slots →
    (∃ (v : Option Value) (st₀ t T' : State) (L : List Loc), st₀.heap = H ∧ Stand p l e R s m args below meth c T' (locs ++ L) (cells + mc) (slots + ms) ∧ (∀ q ∈ L, free q.base) ∧ T'.heap = t.heap ∧ T'.vm = t.vm ∧ Qa st₀ (.returned v) t ∧
      Goes p e below T g T' { g with pc := g.pc + 3, stack := v.toList ++ rest }) ∨
    (∃ (q : Addr) (st₀ t T' : State) (L : List Loc) (E : String) (ce : Cell), st₀.heap = H ∧ Stand p l e R s m args below meth c T' (locs ++ L) (cells + mc) (slots + ms) ∧ (∀ z ∈ L, free z.base) ∧ T'.heap = t.heap ∧ T'.vm = t.vm ∧ XC E st₀ t ∧ t.heap[q]? = some ce ∧ ce.vm = .none ∧ s.vm.findClass E = some ce.cls ∧
      Steps p.tables e below (T.setTop g) ((T'.setTop { g with stack := rest }).pushFrame (.throwing q)))
def vx_X {S : Type} (px : S → Prop) (B : String → S → State → Prop) (A : Nat → Prop) : String → State → State → Prop := fun E st t => ∃ u : S, px u ∧ B E u t ∧ va_F A st t
section Runs
variable {p : Program} {l : Launch} {e : Env} {R : Room} {s : State} {m : MethodId} {args : Array Value} {below : List Frame} {meth : Method} {c : Code} {H : Heap} {locs : List Loc} {cells slots : Nat}
variable {y : MethodName} {bytes cc : ByteArray} {maxL nL mc ms n index : Nat} {ret : Option FieldType} {ws : List Cond} {rm : Room} {Pc : Array Value → State → Prop} {Qc : Array Value → State → Outcome → State → Prop} {XC : String → State → State → Prop} {free : Addr → Prop} {Ts : List Cond} {own C : String} {b : Addr} {As rest : List Value} {g : JFrame}
theorem vx_callBack (cb : CallB R s args own index y bytes maxL ret ws rm mc ms n) (hM : vx_Met l y ws rm Pc Qc XC mc ms free) (hbl : FrameBlind Pc) : vx_Back l R p e below s args y 3 8 (PreOf R mc ms Pc) (PostOf Qc mc ms free) (vx_Post XC mc ms free) := by
  obtain ⟨hrc, hrs, hfr, hlo, hws, hcw, -, hini, -⟩ := cb
  exact vx_back (bytes := bytes) (maxL := maxL) (ret := ret) hM hbl hrc hrs hfr hlo hws hcw (fun a' U hW => word_at hW (Or.inl (by first | rfl | simp [Cond.onTables, Cond.keeps, Cond.steady])) hini)
theorem vx_runV (S : CallFix p m c cc nL s args Ts own) (hM : vx_Met l y ws rm Pc Qc XC mc ms free) (cw : CallW R s args own C index y bytes maxL ret ws rm mc ms n) (hp : PreV s H C b Pc As)
    (hg : g.method = m) (hn : As.length = n) (hsize : g.locals.size = nL) (hstack : g.stack = As.reverse ++ .ref b :: rest) (hW : 2 * g.monitorRoom + (rest.map fun v => v.category).sum ≤ 8) (hdg : decode cc g.pc = .ok (.invokevirtual index, 3)) (hf : cells + mc ≤ R.cells ∧ slots + ms ≤ R.slots) :
    vx_Run p l e R s m args below meth c H locs cells slots mc ms g rest (Qc (Value.ref b :: As).toArray) XC free := by
  have hK : vx_Back l R p e below s args y 3 8 (PreOf R mc ms Pc) (PostOf Qc mc ms free) (vx_Post XC mc ms free) := vx_callBack cw.1 hM hp.1
  obtain ⟨⟨-, -, -, -, -, -, hcode, -, hy, hlen, hl⟩, hin, hse⟩ := cw
  obtain ⟨hx, hb, hml, ho, -⟩ := S
  obtain ⟨-, ⟨cellB, hcB, hoB, hclB⟩, hPc⟩ := hp
  intro T hT X
  rcases vx_callV X hx (C := C) (bytes := bytes) (maxL := maxL) (ret := ret) ho hl hin hse hcode hy hK (by rw [hT]; exact hcB) hoB hclB hg (hsize.trans hml.symm) (argsL := As) (rest := rest) (fun sig h => hn.trans (hlen sig h)) hstack hW (by rw [hb]; exact hdg)
    (fun vm₁ hW₁ => ⟨hf.1, hf.2, hPc (T.setVm vm₁) hT hW₁⟩) with ⟨v, vm₁, ⟨U', l2, c2, s2⟩, hW₁, X', ⟨g', mk, t, L, e1, e2, hq, h1, hL, h2, h3⟩, st⟩ | ⟨q, vm₁, ⟨U', l2, c2, s2⟩, hW₁, X', ⟨g', mk, t, L, E, ce, e1, e2, hq, hce, hcv, hcl, h1, hL, h2, h3⟩, st⟩
  · dsimp only [Pt.U, Pt.locs, Pt.cells, Pt.slots] at X' e1 e2 h1 h2 h3 st
    subst h1; subst h2; subst h3
    exact Or.inl ⟨v, (T.setVm vm₁).calling g' mk (Value.ref b :: As).toArray, t, U', L, hT, X', hL, e1, e2, hq, st⟩
  · dsimp only [Pt.U, Pt.locs, Pt.cells, Pt.slots] at X' e1 e2 h1 h2 h3 st hcl
    subst h1; subst h2; subst h3
    exact Or.inr ⟨q, (T.setVm vm₁).calling g' mk (Value.ref b :: As).toArray, t, U', L, E, ce, hT, X', hL, e1, e2, hq, hce, hcv, vx_cls hW₁ hcl, st⟩
theorem vx_runS (S : CallFix p m c cc nL s args Ts own) (hM : vx_Met l y ws rm Pc Qc XC mc ms free) (cw : CallB R s args own index y bytes maxL ret ws rm mc ms n ∧ (Cond.static y).before args s = true) (hp : PreS s H Pc As)
    (hg : g.method = m) (hn : As.length = n) (hsize : g.locals.size = nL) (hstack : g.stack = As.reverse ++ rest) (hW : 2 * g.monitorRoom + (rest.map fun v => v.category).sum ≤ 8) (hdg : decode cc g.pc = .ok (.invokestatic index, 3)) (hf : cells + mc ≤ R.cells ∧ slots + ms ≤ R.slots) :
    vx_Run p l e R s m args below meth c H locs cells slots mc ms g rest (Qc As.toArray) XC free := by
  have hK : vx_Back l R p e below s args y 3 8 (PreOf R mc ms Pc) (PostOf Qc mc ms free) (vx_Post XC mc ms free) := vx_callBack cw.1 hM hp.1
  obtain ⟨⟨-, -, -, -, -, -, hcode, hini, hy, hlen, hl⟩, hstt⟩ := cw
  obtain ⟨hx, hb, hml, ho, -⟩ := S
  intro T hT X
  rcases vx_callS X hx (bytes := bytes) (maxL := maxL) (ret := ret) ho hl hstt hini hcode hy hK hg (hsize.trans hml.symm) (argsL := As) (rest := rest) (fun sig h => hn.trans (hlen sig h)) hstack hW (by rw [hb]; exact hdg)
    (fun vm₁ hW₁ => ⟨hf.1, hf.2, hp.2 (T.setVm vm₁) hT hW₁⟩) with ⟨v, vm₁, ⟨U', l2, c2, s2⟩, hW₁, X', ⟨g', mk, t, L, e1, e2, hq, h1, hL, h2, h3⟩, st⟩ | ⟨q, vm₁, ⟨U', l2, c2, s2⟩, hW₁, X', ⟨g', mk, t, L, E, ce, e1, e2, hq, hce, hcv, hcl, h1, hL, h2, h3⟩, st⟩
  · dsimp only [Pt.U, Pt.locs, Pt.cells, Pt.slots] at X' e1 e2 h1 h2 h3 st
    subst h1; subst h2; subst h3
    exact Or.inl ⟨v, (T.setVm vm₁).calling g' mk As.toArray, t, U', L, hT, X', hL, e1, e2, hq, st⟩
  · dsimp only [Pt.U, Pt.locs, Pt.cells, Pt.slots] at X' e1 e2 h1 h2 h3 st hcl
    subst h1; subst h2; subst h3
    exact Or.inr ⟨q, (T.setVm vm₁).calling g' mk As.toArray, t, U', L, E, ce, hT, X', hL, e1, e2, hq, hce, hcv, vx_cls hW₁ hcl, st⟩
end Runs
section Rows
variable {p : Program} {l : Launch} {e : Env} {R : Room} {s : State} {m : MethodId} {args : Array Value} {below : List Frame} {meth : Method} {c : Code} {H : Heap} {locs : List Loc} {cells slots : Nat} {Q : State → Prop}
variable {mc ms : Nat} {free : Addr → Prop} {A0 A1 : Nat → Prop} {H0 : Heap} {a : Array Value} {pc : Nat} {ls : Array Slot} {st0 rest : List Value}
theorem vx_keep {st₀ t T' : State} {L : List Loc} (h0 : st₀.heap = H) (e1 : T'.heap = t.heap) (hS : va_S A0 H0 H locs) (hA : ∀ q, q < H.size → A1 q → A0 q) (hf : ∀ q, free q → A0 q) (hL : ∀ q ∈ L, free q.base) (hF : va_F A1 st₀ t) :
    H.size ≤ T'.heap.size ∧ (∀ q : Nat, q < H.size → ¬ A1 q → T'.heap[q]? = H[q]?) ∧ va_S A0 H0 T'.heap (locs ++ L) := by
  obtain ⟨hz, hk⟩ := hF
  rw [h0] at hz hk
  exact ⟨by rw [e1]; exact hz, fun q h1 h2 => by rw [e1]; exact hk q h1 h2,
    ⟨Nat.le_trans hS.1 (by rw [e1]; exact hz), fun q h1 h2 => by rw [e1, hk q (Nat.lt_of_lt_of_le h1 hS.1) (fun z => h2 (hA q (Nat.lt_of_lt_of_le h1 hS.1) z))]; exact hS.2.1 q h1 h2, fun q hq => by
      rcases List.mem_append.mp hq with h | h
      · exact hS.2.2 q h
      · exact hf _ (hL q h)⟩⟩
theorem vx_calli {S SX : Type} {post : Int32 → S → Prop} {px : SX → Prop} {B : S → State → Prop} {BX : String → SX → State → Prop} {AX : Nat → Prop} (hr : vx_Run p l e R s m args below meth c H locs cells slots mc ms (F0 m pc ls st0) rest (va_Qi post B A1 a) (vx_X px BX AX) free) (hS : va_S A0 H0 H locs) (hA : ∀ q, q < H.size → A1 q → A0 q) (hf : ∀ q, free q → A0 q) (hAX : ∀ q, q < H.size → AX q → A0 q)
    (kx : ∀ (E : String) (ce : Cell) (q9 : Addr) (u : SX) (t : State) (H1 : Heap) (locs1 : List Loc), t.heap = H1 → s.vm.Alike t.vm → px u → BX E u t → H.size ≤ H1.size → (∀ q : Nat, q < H.size → ¬ AX q → H1[q]? = H[q]?) → va_S A0 H0 H1 locs1 → H1[q9]? = some ce → ce.vm = .none → s.vm.findClass E = some ce.cls → vx_W p l e R s m args below meth c H1 locs1 (cells + mc) (slots + ms) Q (F0 m pc ls rest) q9)
    (kk : ∀ (r : Int32) (u : S) (t : State) (H1 : Heap) (locs1 : List Loc), t.heap = H1 → s.vm.Alike t.vm → post r u → B u t → H.size ≤ H1.size → (∀ q : Nat, q < H.size → ¬ A1 q → H1[q]? = H[q]?) → va_S A0 H0 H1 locs1 → W p l e R s m args below meth c H1 locs1 (cells + mc) (slots + ms) Q (F0 m (pc + 3) ls (.int r :: rest))) : W p l e R s m args below meth c H locs cells slots Q (F0 m pc ls st0) := by
  intro T hT X
  rcases hr T hT X with ⟨v, st₀, t, T', L, h0, X', hL, e1, e2, ⟨⟨r, u, hv, hp, hb⟩, hF⟩, st⟩ | ⟨q, st₀, t, T', L, E, ce, h0, X', hL, e1, e2, ⟨u, hp, hb, hF⟩, hce, hcv, hcl, st⟩
  · cases hv
    obtain ⟨k1, k2, k3⟩ := vx_keep h0 e1 hS hA hf hL hF
    obtain ⟨t2, a1, b1⟩ := kk r u t T'.heap (locs ++ L) e1.symm (by rw [← e2]; exact X'.warmed.alike) hp hb k1 k2 k3 T' rfl X'
    exact ⟨t2, st t2 a1, b1⟩
  · obtain ⟨k1, k2, k3⟩ := vx_keep h0 e1 hS hAX hf hL hF
    obtain ⟨t2, a1, b1⟩ := kx E ce q u t T'.heap (locs ++ L) e1.symm (by rw [← e2]; exact X'.warmed.alike) hp hb k1 k2 k3 (by rw [e1]; exact hce) hcv hcl T' rfl X'
    exact ⟨t2, st.trans a1, b1⟩
theorem vx_calll {S SX : Type} {post : Int64 → S → Prop} {px : SX → Prop} {B : S → State → Prop} {BX : String → SX → State → Prop} {AX : Nat → Prop} (hr : vx_Run p l e R s m args below meth c H locs cells slots mc ms (F0 m pc ls st0) rest (va_Ql post B A1 a) (vx_X px BX AX) free) (hS : va_S A0 H0 H locs) (hA : ∀ q, q < H.size → A1 q → A0 q) (hf : ∀ q, free q → A0 q) (hAX : ∀ q, q < H.size → AX q → A0 q)
    (kx : ∀ (E : String) (ce : Cell) (q9 : Addr) (u : SX) (t : State) (H1 : Heap) (locs1 : List Loc), t.heap = H1 → s.vm.Alike t.vm → px u → BX E u t → H.size ≤ H1.size → (∀ q : Nat, q < H.size → ¬ AX q → H1[q]? = H[q]?) → va_S A0 H0 H1 locs1 → H1[q9]? = some ce → ce.vm = .none → s.vm.findClass E = some ce.cls → vx_W p l e R s m args below meth c H1 locs1 (cells + mc) (slots + ms) Q (F0 m pc ls rest) q9)
    (kk : ∀ (r : Int64) (u : S) (t : State) (H1 : Heap) (locs1 : List Loc), t.heap = H1 → s.vm.Alike t.vm → post r u → B u t → H.size ≤ H1.size → (∀ q : Nat, q < H.size → ¬ A1 q → H1[q]? = H[q]?) → va_S A0 H0 H1 locs1 → W p l e R s m args below meth c H1 locs1 (cells + mc) (slots + ms) Q (F0 m (pc + 3) ls (.long r :: rest))) : W p l e R s m args below meth c H locs cells slots Q (F0 m pc ls st0) := by
  intro T hT X
  rcases hr T hT X with ⟨v, st₀, t, T', L, h0, X', hL, e1, e2, ⟨⟨r, u, hv, hp, hb⟩, hF⟩, st⟩ | ⟨q, st₀, t, T', L, E, ce, h0, X', hL, e1, e2, ⟨u, hp, hb, hF⟩, hce, hcv, hcl, st⟩
  · cases hv
    obtain ⟨k1, k2, k3⟩ := vx_keep h0 e1 hS hA hf hL hF
    obtain ⟨t2, a1, b1⟩ := kk r u t T'.heap (locs ++ L) e1.symm (by rw [← e2]; exact X'.warmed.alike) hp hb k1 k2 k3 T' rfl X'
    exact ⟨t2, st t2 a1, b1⟩
  · obtain ⟨k1, k2, k3⟩ := vx_keep h0 e1 hS hAX hf hL hF
    obtain ⟨t2, a1, b1⟩ := kx E ce q u t T'.heap (locs ++ L) e1.symm (by rw [← e2]; exact X'.warmed.alike) hp hb k1 k2 k3 (by rw [e1]; exact hce) hcv hcl T' rfl X'
    exact ⟨t2, st.trans a1, b1⟩
theorem vx_callf {S SX : Type} {post : UInt32 → S → Prop} {px : SX → Prop} {B : S → State → Prop} {BX : String → SX → State → Prop} {AX : Nat → Prop} (hr : vx_Run p l e R s m args below meth c H locs cells slots mc ms (F0 m pc ls st0) rest (va_Qf post B A1 a) (vx_X px BX AX) free) (hS : va_S A0 H0 H locs) (hA : ∀ q, q < H.size → A1 q → A0 q) (hf : ∀ q, free q → A0 q) (hAX : ∀ q, q < H.size → AX q → A0 q)
    (kx : ∀ (E : String) (ce : Cell) (q9 : Addr) (u : SX) (t : State) (H1 : Heap) (locs1 : List Loc), t.heap = H1 → s.vm.Alike t.vm → px u → BX E u t → H.size ≤ H1.size → (∀ q : Nat, q < H.size → ¬ AX q → H1[q]? = H[q]?) → va_S A0 H0 H1 locs1 → H1[q9]? = some ce → ce.vm = .none → s.vm.findClass E = some ce.cls → vx_W p l e R s m args below meth c H1 locs1 (cells + mc) (slots + ms) Q (F0 m pc ls rest) q9)
    (kk : ∀ (r : UInt32) (u : S) (t : State) (H1 : Heap) (locs1 : List Loc), t.heap = H1 → s.vm.Alike t.vm → post r u → B u t → H.size ≤ H1.size → (∀ q : Nat, q < H.size → ¬ A1 q → H1[q]? = H[q]?) → va_S A0 H0 H1 locs1 → W p l e R s m args below meth c H1 locs1 (cells + mc) (slots + ms) Q (F0 m (pc + 3) ls (.float r :: rest))) : W p l e R s m args below meth c H locs cells slots Q (F0 m pc ls st0) := by
  intro T hT X
  rcases hr T hT X with ⟨v, st₀, t, T', L, h0, X', hL, e1, e2, ⟨⟨r, u, hv, hp, hb⟩, hF⟩, st⟩ | ⟨q, st₀, t, T', L, E, ce, h0, X', hL, e1, e2, ⟨u, hp, hb, hF⟩, hce, hcv, hcl, st⟩
  · cases hv
    obtain ⟨k1, k2, k3⟩ := vx_keep h0 e1 hS hA hf hL hF
    obtain ⟨t2, a1, b1⟩ := kk r u t T'.heap (locs ++ L) e1.symm (by rw [← e2]; exact X'.warmed.alike) hp hb k1 k2 k3 T' rfl X'
    exact ⟨t2, st t2 a1, b1⟩
  · obtain ⟨k1, k2, k3⟩ := vx_keep h0 e1 hS hAX hf hL hF
    obtain ⟨t2, a1, b1⟩ := kx E ce q u t T'.heap (locs ++ L) e1.symm (by rw [← e2]; exact X'.warmed.alike) hp hb k1 k2 k3 (by rw [e1]; exact hce) hcv hcl T' rfl X'
    exact ⟨t2, st.trans a1, b1⟩
theorem vx_calld {S SX : Type} {post : UInt64 → S → Prop} {px : SX → Prop} {B : S → State → Prop} {BX : String → SX → State → Prop} {AX : Nat → Prop} (hr : vx_Run p l e R s m args below meth c H locs cells slots mc ms (F0 m pc ls st0) rest (va_Qd post B A1 a) (vx_X px BX AX) free) (hS : va_S A0 H0 H locs) (hA : ∀ q, q < H.size → A1 q → A0 q) (hf : ∀ q, free q → A0 q) (hAX : ∀ q, q < H.size → AX q → A0 q)
    (kx : ∀ (E : String) (ce : Cell) (q9 : Addr) (u : SX) (t : State) (H1 : Heap) (locs1 : List Loc), t.heap = H1 → s.vm.Alike t.vm → px u → BX E u t → H.size ≤ H1.size → (∀ q : Nat, q < H.size → ¬ AX q → H1[q]? = H[q]?) → va_S A0 H0 H1 locs1 → H1[q9]? = some ce → ce.vm = .none → s.vm.findClass E = some ce.cls → vx_W p l e R s m args below meth c H1 locs1 (cells + mc) (slots + ms) Q (F0 m pc ls rest) q9)
    (kk : ∀ (r : UInt64) (u : S) (t : State) (H1 : Heap) (locs1 : List Loc), t.heap = H1 → s.vm.Alike t.vm → post r u → B u t → H.size ≤ H1.size → (∀ q : Nat, q < H.size → ¬ A1 q → H1[q]? = H[q]?) → va_S A0 H0 H1 locs1 → W p l e R s m args below meth c H1 locs1 (cells + mc) (slots + ms) Q (F0 m (pc + 3) ls (.double r :: rest))) : W p l e R s m args below meth c H locs cells slots Q (F0 m pc ls st0) := by
  intro T hT X
  rcases hr T hT X with ⟨v, st₀, t, T', L, h0, X', hL, e1, e2, ⟨⟨r, u, hv, hp, hb⟩, hF⟩, st⟩ | ⟨q, st₀, t, T', L, E, ce, h0, X', hL, e1, e2, ⟨u, hp, hb, hF⟩, hce, hcv, hcl, st⟩
  · cases hv
    obtain ⟨k1, k2, k3⟩ := vx_keep h0 e1 hS hA hf hL hF
    obtain ⟨t2, a1, b1⟩ := kk r u t T'.heap (locs ++ L) e1.symm (by rw [← e2]; exact X'.warmed.alike) hp hb k1 k2 k3 T' rfl X'
    exact ⟨t2, st t2 a1, b1⟩
  · obtain ⟨k1, k2, k3⟩ := vx_keep h0 e1 hS hAX hf hL hF
    obtain ⟨t2, a1, b1⟩ := kx E ce q u t T'.heap (locs ++ L) e1.symm (by rw [← e2]; exact X'.warmed.alike) hp hb k1 k2 k3 (by rw [e1]; exact hce) hcv hcl T' rfl X'
    exact ⟨t2, st.trans a1, b1⟩
theorem vx_callv {S SX : Type} {post : S → Prop} {px : SX → Prop} {B : S → State → Prop} {BX : String → SX → State → Prop} {AX : Nat → Prop} (hr : vx_Run p l e R s m args below meth c H locs cells slots mc ms (F0 m pc ls st0) rest (va_Qv post B A1 a) (vx_X px BX AX) free) (hS : va_S A0 H0 H locs) (hA : ∀ q, q < H.size → A1 q → A0 q) (hf : ∀ q, free q → A0 q) (hAX : ∀ q, q < H.size → AX q → A0 q)
    (kx : ∀ (E : String) (ce : Cell) (q9 : Addr) (u : SX) (t : State) (H1 : Heap) (locs1 : List Loc), t.heap = H1 → s.vm.Alike t.vm → px u → BX E u t → H.size ≤ H1.size → (∀ q : Nat, q < H.size → ¬ AX q → H1[q]? = H[q]?) → va_S A0 H0 H1 locs1 → H1[q9]? = some ce → ce.vm = .none → s.vm.findClass E = some ce.cls → vx_W p l e R s m args below meth c H1 locs1 (cells + mc) (slots + ms) Q (F0 m pc ls rest) q9)
    (kk : ∀ (u : S) (t : State) (H1 : Heap) (locs1 : List Loc), t.heap = H1 → s.vm.Alike t.vm → post u → B u t → H.size ≤ H1.size → (∀ q : Nat, q < H.size → ¬ A1 q → H1[q]? = H[q]?) → va_S A0 H0 H1 locs1 → W p l e R s m args below meth c H1 locs1 (cells + mc) (slots + ms) Q (F0 m (pc + 3) ls (rest))) : W p l e R s m args below meth c H locs cells slots Q (F0 m pc ls st0) := by
  intro T hT X
  rcases hr T hT X with ⟨v, st₀, t, T', L, h0, X', hL, e1, e2, ⟨⟨u, hv, hp, hb⟩, hF⟩, st⟩ | ⟨q, st₀, t, T', L, E, ce, h0, X', hL, e1, e2, ⟨u, hp, hb, hF⟩, hce, hcv, hcl, st⟩
  · cases hv
    obtain ⟨k1, k2, k3⟩ := vx_keep h0 e1 hS hA hf hL hF
    obtain ⟨t2, a1, b1⟩ := kk u t T'.heap (locs ++ L) e1.symm (by rw [← e2]; exact X'.warmed.alike) hp hb k1 k2 k3 T' rfl X'
    exact ⟨t2, st t2 a1, b1⟩
  · obtain ⟨k1, k2, k3⟩ := vx_keep h0 e1 hS hAX hf hL hF
    obtain ⟨t2, a1, b1⟩ := kx E ce q u t T'.heap (locs ++ L) e1.symm (by rw [← e2]; exact X'.warmed.alike) hp hb k1 k2 k3 (by rw [e1]; exact hce) hcv hcl T' rfl X'
    exact ⟨t2, st.trans a1, b1⟩
/-- caught by the row x of this method's table; the rows ahead don't take it -/
theorem vx_catch {own name : String} {E : String} {ce : Cell} {q : Addr} (hown : s.vm.findClass own = some m.cls) (pre : List ExceptionTableEntry) (x : ExceptionTableEntry) (suf : List ExceptionTableEntry) (hsplit : c.exceptionTable.toList = pre ++ x :: suf)
    (hpass : ∀ z ∈ pre, covers z pc = false ∨ (z.catchType ≠ 0 ∧ ∃ nm : String, (Cond.classLink own z.catchType nm).before args s = true ∧ va_Nc E nm s)) (hx : covers x pc = true) (h0 : x.catchType ≠ 0)
    (hlink : (Cond.classLink own x.catchType name).before args s = true) (hcast : (Cond.castable E name).before args s = true) (hcell : H[q]? = some ce) (hv : ce.vm = .none) (hcl : s.vm.findClass E = some ce.cls)
    (kk : W p l e R s m args below meth c H locs cells slots Q (F0 m x.handlerPc ls [.ref q])) : vx_W p l e R s m args below meth c H locs cells slots Q (F0 m pc ls rest) q := by
  intro T hT X
  have hpl : e.platform.magicAccessors = ({} : Platform).magicAccessors := by rw [X.admits.platform]
  obtain ⟨c3, c4, hc3, hc4, hasg⟩ := Cond.castable_spec hcast
  cases Option.some.inj (hc3.symm.trans hcl)
  obtain ⟨c5, hc5, hcl5⟩ := Cond.classLink_spec hown hlink e.platform hpl
  cases Option.some.inj (hc4.symm.trans hc5)
  obtain ⟨vm', X', st⟩ := X.thenCaughtThrough q (g := F0 m pc ls rest) rfl (Steps.refl _) (by rw [hT]; exact hcell) (by rw [hv]; rfl) (by obtain ⟨k9, h9, -⟩ := Vm.findClass_spec hcl; exact ⟨k9, h9⟩) pre x suf hsplit
    (fun z hz => by
      rcases hpass z hz with h | ⟨hz0, nm, hl1, hn1⟩
      · exact Or.inl h
      · obtain ⟨c6, hc6, hcl6⟩ := Cond.classLink_spec hown hl1 e.platform hpl
        obtain ⟨a8, b8, h1, h2, h3⟩ := hn1
        cases Option.some.inj (h1.symm.trans hcl)
        cases Option.some.inj (h2.symm.trans hc6)
        exact Or.inr ⟨hz0, _, hcl6, h3⟩) hx (Or.inr ⟨h0, c4, hcl5, hasg⟩)
  obtain ⟨t, a1, b1⟩ := kk (T.setVm vm') hT X'
  exact ⟨t, st.trans a1, b1⟩
end Rows
section Ends
variable {p : Program} {l : Launch} {e : Env} {R : Room} {s : State} {m : MethodId} {args : Array Value} {below : List Frame} {meth : Method} {c : Code} {H : Heap} {locs : List Loc} {cells slots : Nat} {Q : State → Prop}
variable {mc ms : Nat} {free : Addr → Prop} {A0 A1 : Nat → Prop} {H0 : Heap} {a : Array Value} {ls : Array Slot} {st0 rest : List Value}
variable {Qc : Array Value → State → Outcome → State → Prop} {XC : String → State → State → Prop}
/-- what a body that may throw owes at its end -/
def vx_MQ (below : List Frame) (Qc : Array Value → State → Outcome → State → Prop) (XC : String → State → State → Prop) (a : Array Value) (s : State) (mc ms : Nat) (free : Addr → Prop) : State → Prop := fun t =>
  ∃ o, t.status = .running ∧ Ended t below o ∧ vx_Q Qc XC mc ms free a s o t
theorem vx_ret {g : JFrame} {mc ms : Nat} (k : W p l e R s m args below meth c H locs cells slots (MQ below Qc args s mc ms free) g) : W p l e R s m args below meth c H locs cells slots (vx_MQ below Qc XC args s mc ms free) g := by
  intro T hT X
  obtain ⟨t, a1, o, b1, b2, b3, b4⟩ := k T hT X
  exact ⟨t, a1, o, b1, b2, Or.inl ⟨b3, b4⟩⟩
/-- not caught here: it goes on to the caller -/
theorem vx_widen {g : JFrame} {q : Addr} {k n : Nat} (h1 : cells ≤ k) (h2 : slots ≤ n) (kk : vx_W p l e R s m args below meth c H locs k n Q g q) : vx_W p l e R s m args below meth c H locs cells slots Q g q := fun T hT X => kk T hT (stand_widen X h1 h2)
theorem vx_out {pc : Nat} {E : String} {ce : Cell} {q : Addr} {mc ms : Nat} (hout : ∀ x ∈ c.exceptionTable.toList, covers x pc = false) (hlocks : meth.locks = false) (hcell : H[q]? = some ce) (hv : ce.vm = .none) (hcl : s.vm.findClass E = some ce.cls)
    (hx : ∀ t : State, t.heap = H → s.vm.Alike t.vm → XC E s t) (hf : ∀ z ∈ locs, free z.base) (hc : cells ≤ mc) (hs : slots ≤ ms) :
    vx_W p l e R s m args below meth c H locs cells slots (vx_MQ below Qc XC args s mc ms free) (F0 m pc ls rest) q := by
  intro T hT X
  obtain ⟨st1, hrun, hend, hW, hsm⟩ := X.leaveThrown q (g := F0 m pc ls rest) rfl rfl rfl hout hlocks
  have hcell9 : (T.setFrames (.throwing q :: below)).heap[q]? = some ce := by
    show T.heap[q]? = some ce
    rw [hT]; exact hcell
  exact ⟨_, st1, .threw q, hrun, hend, Or.inr ⟨q, rfl, E, ce, locs, hx _ hT hW.alike, hcell9, hv, hcl, hW, hsm.mono hc hs, hf⟩⟩
theorem vx_frame {U : State} {k n : Nat} (h : s.sameButNew ({ U with vm := s.vm } : State) locs k n) : s.heap.size ≤ U.heap.size ∧ ∀ q : Nat, q < s.heap.size → (∀ z ∈ locs, z.base ≠ q) → U.heap[q]? = s.heap[q]? := by
  obtain ⟨-, h2, -, -, -, h6⟩ := h
  refine ⟨h2, fun q hq hz => ?_⟩
  obtain ⟨c9, e1, e2, e3, e4⟩ := h6 q _ (Array.getElem?_eq_getElem hq)
  have hs : c9.slots = (s.heap[q]).slots := Array.ext_getElem? fun i => e4 i fun hm => hz _ hm rfl
  have h9 : c9 = s.heap[q] := by
    rw [hs] at e2
    exact e2
  have e5 : U.heap[q]? = some c9 := e1
  rw [e5, h9, Array.getElem?_eq_getElem hq]
/-- the words of a throw but the four that speak of the heap -/
def vx_no (w : Cond) : Bool := decide (w ≠ .isRef (.static Bundle.tN "UNASSIGNED_STACK" Bundle.steD)) && decide (w ≠ .isRef (.static Bundle.tN "SUPPRESSED_SENTINEL" Bundle.listD)) && decide (w ≠ .laysStatic Bundle.tN "UNASSIGNED_STACK" Bundle.steD) && decide (w ≠ .laysStatic Bundle.tN "SUPPRESSED_SENTINEL" Bundle.listD)
def vx_at0 (own : String) (ic : Nat) (X : String) (names : List String) : List Cond := (Bundle.ownAtoms0 own ic X names).filter vx_no
def vx_atS (own : String) (ic : Nat) (X : String) (names : List String) : List Cond := (Bundle.ownAtoms own ic X names).filter vx_no
/-- a word that the tables alone decide, or a good one -/
def vx_ot (w : Cond) : Bool := w.onTables || goodWord w
theorem vx_ot_at {args a' : Array Value} {s U : State} {w : Cond} (hW : s.WarmedH U.vm) (hvm : s.vm = U.vm) (hg : vx_ot w = true) (h : w.before args s = true) : w.before a' U = true := by
  simp only [vx_ot, Bool.or_eq_true] at hg
  rcases hg with hg | hg
  · exact va_tabs hg hvm h
  · exact word_at hW (good_of_word hg) h
/-- a list's words: the good ones out of the method's own list, the others by premises of their own -/
theorem vx_hat {args : Array Value} {s : State} {L B : List Cond} (h1 : ∀ w ∈ L.filter goodWord, w.before args s = true) (h2 : ∀ w ∈ L.filter (fun w => !goodWord w), w ∈ B) (h3 : ∀ w ∈ B, w.before args s = true) : ∀ w ∈ L, w.before args s = true := by
  intro w hw
  by_cases g : goodWord w = true
  · exact h1 w (List.mem_filter.mpr ⟨hw, g⟩)
  · refine h3 w (h2 w (List.mem_filter.mpr ⟨hw, ?_⟩))
    show (!goodWord w) = true
    cases hgw : goodWord w
    · rfl
    · exact absurd hgw g
theorem vx_c {args : Array Value} {s : State} {w : Cond} {B : List Cond} (h : w.before args s = true) (t : ∀ w ∈ B, w.before args s = true) : ∀ w' ∈ w :: B, w'.before args s = true := fun w' h' => (List.mem_cons.mp h').elim (fun e => by rw [e]; exact h) (t w')
theorem vx_n {args : Array Value} {s : State} : ∀ w ∈ ([] : List Cond), w.before args s = true := fun _ h => nomatch h
theorem vx_own {args : Array Value} {s : State} {L : List Cond} (h1 : ∀ w ∈ L.filter vx_no, w.before args s = true)
    (hU : (Cond.isRef (.static Bundle.tN "UNASSIGNED_STACK" Bundle.steD)).before args s = true) (hN : (Cond.isRef (.static Bundle.tN "SUPPRESSED_SENTINEL" Bundle.listD)).before args s = true)
    (lU : (Cond.laysStatic Bundle.tN "UNASSIGNED_STACK" Bundle.steD).before args s = true) (lN : (Cond.laysStatic Bundle.tN "SUPPRESSED_SENTINEL" Bundle.listD).before args s = true) : ∀ w ∈ L, w.before args s = true := by
  intro w hw
  by_cases e1 : w = .isRef (.static Bundle.tN "UNASSIGNED_STACK" Bundle.steD)
  · rw [e1]; exact hU
  · by_cases e2 : w = .isRef (.static Bundle.tN "SUPPRESSED_SENTINEL" Bundle.listD)
    · rw [e2]; exact hN
    · by_cases e3 : w = .laysStatic Bundle.tN "UNASSIGNED_STACK" Bundle.steD
      · rw [e3]; exact lU
      · by_cases e4 : w = .laysStatic Bundle.tN "SUPPRESSED_SENTINEL" Bundle.listD
        · rw [e4]; exact lN
        · exact h1 w (List.mem_filter.mpr ⟨hw, by unfold vx_no; rw [decide_eq_true e1, decide_eq_true e2, decide_eq_true e3, decide_eq_true e4]; rfl⟩)
/-- where a static field lies, its class's statics cell in H -/
def vx_L (C n d : String) (A : Nat → Prop) (U : State) (H : Heap) : Prop := ∃ (c : ClassId) (k : Class) (i : Nat) (f : Field) (a : Nat) (cell : Cell), U.vm.findClass C = some c ∧ U.fieldFound? C n d = some (c, k, i, f) ∧ f.isStatic = true ∧ k.statics = some a ∧ H[a]? = some cell ∧ cell.vm.isStatics = true ∧ cell.cls = c ∧ f.slot < cell.slots.size ∧ k.staticTypes[f.slot]? = some f.type ∧ ¬ A a
theorem vx_L.moved {C n d : String} {A : Nat → Prop} {u U : State} {H : Heap} (hvm : u.vm.Alike U.vm) (h : vx_L C n d A u H) : vx_L C n d A U H := by
  obtain ⟨c, k, i, f, a, cell, h1, h2, h3, h4, h5, h6, h7, h8, h9, h10⟩ := h
  obtain ⟨k', hi', he⟩ := State.fieldFound?_setVm hvm h2
  exact ⟨c, k', i, f, a, cell, by rw [hvm.findClass]; exact h1, hi', h3, by rw [he]; exact h4, h5, h6, h7, h8, by rw [he]; exact h9, h10⟩
theorem vx_L.kept {C n d : String} {A : Nat → Prop} {U : State} {H H1 : Heap} (h : vx_L C n d A U H) (hq : ∀ a : Nat, a < H.size → ¬ A a → H1[a]? = H[a]?) : vx_L C n d A U H1 := by
  obtain ⟨c, k, i, f, a, cell, h1, h2, h3, h4, h5, h6, h7, h8, h9, h10⟩ := h
  exact ⟨c, k, i, f, a, cell, h1, h2, h3, h4, by rw [hq a (Array.getElem?_eq_some_iff.mp h5).1 h10]; exact h5, h6, h7, h8, h9, h10⟩
theorem vx_L.narrow {C n d : String} {A B : Nat → Prop} {U : State} {H : Heap} (h : vx_L C n d A U H) (hAB : ∀ q, B q → A q) : vx_L C n d B U H := by
  obtain ⟨c, k, i, f, a, cell, h1, h2, h3, h4, h5, h6, h7, h8, h9, h10⟩ := h
  exact ⟨c, k, i, f, a, cell, h1, h2, h3, h4, h5, h6, h7, h8, h9, fun z => h10 (hAB _ z)⟩
theorem vx_L.word {C n d : String} {A : Nat → Prop} {s : State} {args : Array Value} (h : vx_L C n d A s s.heap) : (Cond.laysStatic C n d).before args s = true := by
  obtain ⟨c, k, i, f, a, cell, h1, h2, h3, h4, h5, h6, h7, h8, h9, -⟩ := h
  show (Cond.laysStatic C n d).holds args s none s [] = true
  exact Cond.laysStatic_of h1 h2 h3 h4 h5 h6 h7 h8 h9
/-- .. and what it holds: null or some reference -/
def vx_Zq (C n d : String) (A : Nat → Prop) (U : State) (H : Heap) : Prop := va_Zq C n d A U H ∧ vx_L C n d A U H
theorem vx_Zq.moved {C n d : String} {A : Nat → Prop} {u U : State} {H : Heap} (hvm : u.vm.Alike U.vm) (h : vx_Zq C n d A u H) : vx_Zq C n d A U H := ⟨va_Zq.moved hvm h.1, vx_L.moved hvm h.2⟩
theorem vx_Zq.kept {C n d : String} {A : Nat → Prop} {U : State} {H H1 : Heap} (h : vx_Zq C n d A U H) (hq : ∀ a : Nat, a < H.size → ¬ A a → H1[a]? = H[a]?) : vx_Zq C n d A U H1 := ⟨va_Zq.kept h.1 hq, vx_L.kept h.2 hq⟩
theorem vx_Zq.narrow {C n d : String} {A B : Nat → Prop} {U : State} {H : Heap} (h : vx_Zq C n d A U H) (hAB : ∀ q, B q → A q) : vx_Zq C n d B U H := ⟨va_Zq.narrow h.1 hAB, vx_L.narrow h.2 hAB⟩
theorem vx_Zqof {args : Array Value} {s : State} {C n d : String} {A : Nat → Prop} (hl : (Cond.laysStatic C n d).before args s = true) (hini : (Cond.initialized C).before args s = true) (h : (Cond.isRef (.static C n d)).before args s = true) (hA : ∀ a : Nat, a < s.heap.size → ¬ A a) : vx_Zq C n d A s s.heap := by
  refine ⟨va_Zqof hl hini h hA, ?_⟩
  obtain ⟨c, k, i, f, a, cell, h1, h2, h3, h4, h5, h6, h7, h8, h9⟩ := Cond.laysStatic_spec hl
  exact ⟨c, k, i, f, a, cell, h1, h2, h3, h4, h5, h6, h7, h8, h9, hA a (Array.getElem?_eq_some_iff.mp h5).1⟩
theorem vx_isRef {C n d : String} {v : Value} {A : Nat → Prop} {s : State} {args : Array Value} (h : va_Z C n d v A s s.heap) (hv : v.isRef = true) : (Cond.isRef (.static C n d)).before args s = true := by
  obtain ⟨cf, kf, fi, f, a, cell, h1, h2, h3, h4, h5, h6, h7, -⟩ := h
  have he : (Term.static C n d).eval args s none [] s = some v := by
    simp [Term.eval, State.fieldNamed?, h1, h2, h4, h5, h6, h7]
  simp only [Cond.before, Cond.holds, Cond.value, he]
  cases v <;> simp_all [Value.isRef]
theorem vx_isRefq {C n d : String} {A : Nat → Prop} {s : State} {args : Array Value} (h : va_Zq C n d A s s.heap) : (Cond.isRef (.static C n d)).before args s = true := by
  rcases h with h | ⟨t, h⟩
  · exact vx_isRef h rfl
  · exact vx_isRef h rfl
/-- the same frame, seen from here: as if the method were called anew in this heap -/
theorem vx_rebase {T : State} (X : Stand p l e R s m args below meth c T locs cells slots) {R' : Room} (hf : R'.frames ≤ R.frames) (hl : R'.locals ≤ R.locals) (hc : cells + R'.cells ≤ R.cells) (hs : slots + R'.slots ≤ R.slots) :
    Stand p l e R' ((T.setVm s.vm).setFrames (.invoking m args :: below)) m args below meth c T [] 0 0 := by
  have htop : (T.setVm s.vm).topJava?.isSome := X.here.top
  have hF : ((T.setVm s.vm).setFrames (.invoking m args :: below)).frames = .invoking m args :: below := State.frames_setFrames _ (State.cur_lt_of_top htop)
  obtain ⟨g₀, hg0⟩ := Option.isSome_iff_exists.mp htop
  obtain ⟨r, hr⟩ := State.topJava?_eq_some.mp hg0
  have hl9 : e.platform.stackLimits (T.setVm s.vm).me = e.platform.stackLimits s.me := X.limits
  have hb9 : (T.setVm s.vm).me.stackBytes = s.me.stackBytes := X.bytes
  refine ⟨X.admits, X.cas, X.clock, hF, ?_, X.hears, X.method, X.code, X.here, X.tail, X.warmed, ?_, ?_, ?_⟩
  · have h := X.room
    have hU : ((T.setVm s.vm).setFrames (.invoking m args :: below)).localsInUse = s.localsInUse := by
      rw [State.localsInUse_invoking hF (meth := meth) (c := c) X.method X.code, State.localsInUse_invoking X.frames X.method X.code]
    simp only [State.hasRoom, Bool.and_eq_true, decide_eq_true_eq] at h ⊢
    obtain ⟨⟨⟨⟨h1, h2, h3, h4, h5, h6⟩, h7⟩, h8⟩, h9⟩ := h
    rw [X.frames, List.length_cons] at h2 h3
    have q1 := X.heapSize
    have q2 := X.used
    simp only [hF, hU, List.length_cons, State.stackLimits_setFrames, State.stackBytes_setFrames, hl9, hb9]
    refine ⟨⟨⟨⟨by omega, by omega, by omega, by omega, by omega, h6⟩, ?_⟩, ?_⟩, X.book⟩
    · show T.heap.size + R'.cells ≤ e.platform.maxCells
      omega
    · show T.slotsUsed + R'.slots ≤ e.platform.maxSlots
      omega
  · rw [State.stackLimits_setFrames]; rfl
  · rw [State.stackBytes_setFrames]; rfl
  · refine ⟨?_, Nat.le_refl _, Nat.le_refl _, ?_, ?_, fun a c9 h9 => ⟨c9, h9, rfl, rfl, fun _ _ => rfl⟩⟩
    · obtain ⟨t, ht, -⟩ := State.frames_cons hr
      show T.setVm s.vm = { ((T.setVm s.vm).setFrames (.invoking m args :: below)).setFrames (T.setVm s.vm).frames with heap := T.heap, slotsUsed := T.slotsUsed }
      rw [State.setFrames_setFrames, State.setFrames_self ht]
      rfl
    · show T.slotsUsed = T.slotsUsed + ((T.heap.toList.drop T.heap.size).map (·.slots.size)).sum
      rw [List.drop_eq_nil_of_le (Nat.le_of_eq Array.length_toList)]
      rfl
    · show ((T.heap.toList.drop T.heap.size).map (·.slots.size)).sum ≤ 0
      rw [List.drop_eq_nil_of_le (Nat.le_of_eq Array.length_toList)]
      exact Nat.le_refl _
/-- 'throw new E()': new; dup; invokespecial; athrow -/
theorem vx_throw0 {cc : ByteArray} {pc : Nat} (hexec : p.tables.exec = Jvm.exec) (hb : c.code = cc) (hl : l.stackTraces = false) {own cls : String} {names : List String} {ik ic mc ms : Nat} {A : Nat → Prop}
    (hown : s.vm.findClass own = some m.cls) (hcls : Bundle.fit cls = true) (hnames : ∀ n ∈ names, Bundle.fit n = true)
    (hk : (Cond.classLink own ik cls).before args s = true) (hini : (Cond.initialized cls).before args s = true) (hat : ∀ w ∈ vx_at0 own ic cls names, w.before args s = true)
    (hgood : ∀ w ∈ Cond.classLink own ik cls :: Cond.initialized cls :: vx_at0 own ic cls names, vx_ot w = true)
    (hU : vx_Zq Bundle.tN "UNASSIGNED_STACK" Bundle.steD A s s.heap) (hN : vx_Zq Bundle.tN "SUPPRESSED_SENTINEL" Bundle.listD A s s.heap) (hS : va_S A s.heap H locs) (hsize : ls.size = c.maxLocals)
    (d0 : decode cc pc = .ok (.new ik, 3)) (d3 : decode cc (pc + 3) = .ok (.dup, 1)) (d4 : decode cc (pc + 4) = .ok (.invokespecial ic, 3)) (d7 : decode cc (pc + 7) = .ok (.athrow, 1))
    (hout : ∀ x ∈ c.exceptionTable.toList, covers x (pc + 7) = false)
    (hRframes : names.length + 3 < R.frames) (hRlocals : (rest.map fun v => v.category).sum + (13 * (names.length + 1) + 42) ≤ R.locals) (hRcells : cells + 1 ≤ R.cells) (hRslots : slots + 6 ≤ R.slots) (hlocks : meth.locks = false)
    (hx : ∀ t : State, s.vm.Alike t.vm → H.size ≤ t.heap.size → (∀ q : Nat, q < H.size → t.heap[q]? = H[q]?) → XC cls s t)
    (hf : ∀ z ∈ locs, free z.base) (hc : cells + 1 ≤ mc) (hs : slots + 6 ≤ ms) :
    W p l e R s m args below meth c H locs cells slots (vx_MQ below Qc XC args s mc ms free) (F0 m pc ls rest) := by
  intro T hT X
  have htr : e.platform.stackTraces = false := (show e.platform.stackTraces = l.stackTraces by rw [X.admits.platform]).trans hl
  have Y := vx_rebase X (R' := { frames := R.frames, locals := R.locals, cells := 1, slots := 6 }) (Nat.le_refl _) (Nat.le_refl _) hRcells hRslots
  obtain ⟨s', hA⟩ : ∃ z, z = (T.setVm s.vm).setFrames (.invoking m args :: below) := ⟨_, rfl⟩
  rw [← hA] at Y
  have hvm : s'.vm = s.vm := by rw [hA]; rfl
  have hhp : s'.heap = H := by rw [hA]; exact hT
  have hW0 : s.WarmedH s'.vm := by rw [hvm]; exact State.WarmedH.refl s
  have hat' : ∀ w ∈ vx_at0 own ic cls names, w.before args s' = true := fun w hw => vx_ot_at hW0 hvm.symm (hgood w (List.mem_cons_of_mem _ (List.mem_cons_of_mem _ hw))) (hat w hw)
  have hk' : (Cond.classLink own ik cls).before args s' = true := vx_ot_at hW0 hvm.symm (hgood _ List.mem_cons_self) hk
  have hini' : (Cond.initialized cls).before args s' = true := vx_ot_at hW0 hvm.symm (hgood _ (List.mem_cons_of_mem _ List.mem_cons_self)) hini
  have hU' : vx_Zq Bundle.tN "UNASSIGNED_STACK" Bundle.steD A s' s'.heap := by rw [hhp]; exact vx_Zq.moved hW0.alike (hU.kept hS.2.1)
  have hN' : vx_Zq Bundle.tN "SUPPRESSED_SENTINEL" Bundle.listD A s' s'.heap := by rw [hhp]; exact vx_Zq.moved hW0.alike (hN.kept hS.2.1)
  have h : ∀ w ∈ Bundle.ownAtoms0 own ic cls names, w.before args s' = true := vx_own hat' (vx_isRefq hU'.1) (vx_isRefq hN'.1) hU'.2.word hN'.2.word
  have hown' : s'.vm.findClass own = some m.cls := by rw [hvm]; exact hown
  have hins : (Cond.instantiable cls 6).before args s' = true := h _ (by simp [Bundle.ownAtoms0])
  obtain ⟨vm₁, cX, kX, hfX, hkX, -, -, X₁, st1⟩ := Y.newCold hexec (own := own) (C := cls) (index := ik) (n := 6) hown' hk' hins hini'
    (g := F0 m pc ls rest) rfl (by rw [hb]; exact d0) (Nat.le_refl _) (Nat.le_refl _)
  generalize hT1 : (T.setVm vm₁).pushCell { cls := cX, slots := kX.instanceTypes.map defaultValue, vm := .none } = T1 at X₁ st1
  have hcat : (Value.ref T.heap.size).category = 1 := rfl
  have hcellA : T1.heap[T.heap.size]? = some (freshCell cX kX) := by rw [← hT1]; exact State.heap_pushCell_size _ _
  have d3' : decode c.code (pc + 3) = .ok (.dup, 1) := by rw [hb]; exact d3
  obtain ⟨U, hsteps, hrun, hend, hW, hsame, ce, hce, hO⟩ := X₁.ctorThrow0 hexec htr (own := own) (cls := cls) (names := names) (ic := ic) hown' hcls hnames h (fun x hx => nomatch hx) hfX hkX hcellA (by rw [hhp, hT]; exact Nat.le_refl _)
    (g := { method := m, pc := pc + 4, locals := ls, stack := .ref T.heap.size :: .ref T.heap.size :: rest, locked := none }) rfl hsize rfl rfl (rest := rest) rfl
    (by rw [hb]; exact d4) (by rw [hb]; exact d7) hout hRframes (by simp only [List.map_cons, List.sum_cons, hcat]; omega) hlocks
  obtain ⟨f1, f2⟩ := vx_frame hsame
  rw [hhp] at f1 f2
  have hWs : s.WarmedH U.vm := State.WarmedH.trans hW0 hW
  have hcl : s.vm.findClass cls = some ce.cls := by
    have h9 := hO.cls
    rw [hvm] at h9
    exact h9
  have hall : s.sameButNew ({ U with vm := s.vm } : State) locs mc ms := by
    subst hA
    obtain ⟨e1, e2⟩ := hsame
    rw [State.setFrames_setFrames] at e1
    have h2 : (T.setVm s.vm).sameButNew ({ U with vm := s.vm } : State) [] (0 + 1) (0 + 6) := ⟨e1, e2⟩
    have h3 := X.same.trans h2
    rw [List.append_nil] at h3
    exact h3.mono hc hs
  refine ⟨U, ?_, .threw T.heap.size, hrun, hend, Or.inr ⟨T.heap.size, rfl, cls, ce, locs, hx U hWs.alike f1 (fun q hq => f2 q hq (fun z hz => nomatch hz)), hce, hO.vm, hcl, hWs, hall, hf⟩⟩
  refine st1 _ ?_
  show Steps p.tables e below (T1.setTop { method := m, pc := pc + 3, locals := ls, stack := .ref T.heap.size :: rest, locked := none }) _
  jvm_step X₁.here [X₁.here.top, hexec, d3', Value.category]
  exact hsteps
/-- 'throw new E("text")': new; dup; ldc; invokespecial; athrow -/
theorem vx_throwS {cc : ByteArray} {pc : Nat} (hexec : p.tables.exec = Jvm.exec) (hb : c.code = cc) (hl : l.stackTraces = false) {own cls text : String} {names : List String} {ik is ic mc ms sa : Nat} {A : Nat → Prop}
    (hown : s.vm.findClass own = some m.cls) (hcls : Bundle.fit cls = true) (hnames : ∀ n ∈ names, Bundle.fit n = true)
    (hk : (Cond.classLink own ik cls).before args s = true) (hini : (Cond.initialized cls).before args s = true) (hstr : vk_R own is text sa s) (hat : ∀ w ∈ vx_atS own ic cls names, w.before args s = true)
    (hgood : ∀ w ∈ Cond.classLink own ik cls :: Cond.initialized cls :: vx_atS own ic cls names, vx_ot w = true)
    (hU : vx_Zq Bundle.tN "UNASSIGNED_STACK" Bundle.steD A s s.heap) (hN : vx_Zq Bundle.tN "SUPPRESSED_SENTINEL" Bundle.listD A s s.heap) (hS : va_S A s.heap H locs) (hsize : ls.size = c.maxLocals)
    (d0 : decode cc pc = .ok (.new ik, 3)) (d3 : decode cc (pc + 3) = .ok (.dup, 1)) (d4 : decode cc (pc + 4) = .ok (.ldc is, 2)) (d6 : decode cc (pc + 6) = .ok (.invokespecial ic, 3)) (d9 : decode cc (pc + 9) = .ok (.athrow, 1))
    (hout : ∀ x ∈ c.exceptionTable.toList, covers x (pc + 9) = false)
    (hRframes : names.length + 3 < R.frames) (hRlocals : (rest.map fun v => v.category).sum + (13 * (names.length + 1) + 43) ≤ R.locals) (hRcells : cells + 1 ≤ R.cells) (hRslots : slots + 6 ≤ R.slots) (hlocks : meth.locks = false)
    (hx : ∀ t : State, s.vm.Alike t.vm → H.size ≤ t.heap.size → (∀ q : Nat, q < H.size → t.heap[q]? = H[q]?) → XC cls s t)
    (hf : ∀ z ∈ locs, free z.base) (hc : cells + 1 ≤ mc) (hs : slots + 6 ≤ ms) :
    W p l e R s m args below meth c H locs cells slots (vx_MQ below Qc XC args s mc ms free) (F0 m pc ls rest) := by
  intro T hT X
  have htr : e.platform.stackTraces = false := (show e.platform.stackTraces = l.stackTraces by rw [X.admits.platform]).trans hl
  have Y := vx_rebase X (R' := { frames := R.frames, locals := R.locals, cells := 1, slots := 6 }) (Nat.le_refl _) (Nat.le_refl _) hRcells hRslots
  obtain ⟨s', hA⟩ : ∃ z, z = (T.setVm s.vm).setFrames (.invoking m args :: below) := ⟨_, rfl⟩
  rw [← hA] at Y
  have hvm : s'.vm = s.vm := by rw [hA]; rfl
  have hhp : s'.heap = H := by rw [hA]; exact hT
  have hW0 : s.WarmedH s'.vm := by rw [hvm]; exact State.WarmedH.refl s
  have hat' : ∀ w ∈ vx_atS own ic cls names, w.before args s' = true := fun w hw => vx_ot_at hW0 hvm.symm (hgood w (List.mem_cons_of_mem _ (List.mem_cons_of_mem _ hw))) (hat w hw)
  have hk' : (Cond.classLink own ik cls).before args s' = true := vx_ot_at hW0 hvm.symm (hgood _ List.mem_cons_self) hk
  have hini' : (Cond.initialized cls).before args s' = true := vx_ot_at hW0 hvm.symm (hgood _ (List.mem_cons_of_mem _ List.mem_cons_self)) hini
  have hU' : vx_Zq Bundle.tN "UNASSIGNED_STACK" Bundle.steD A s' s'.heap := by rw [hhp]; exact vx_Zq.moved hW0.alike (hU.kept hS.2.1)
  have hN' : vx_Zq Bundle.tN "SUPPRESSED_SENTINEL" Bundle.listD A s' s'.heap := by rw [hhp]; exact vx_Zq.moved hW0.alike (hN.kept hS.2.1)
  have h : ∀ w ∈ Bundle.ownAtoms own ic cls names, w.before args s' = true := vx_own hat' (vx_isRefq hU'.1) (vx_isRefq hN'.1) hU'.2.word hN'.2.word
  have hown' : s'.vm.findClass own = some m.cls := by rw [hvm]; exact hown
  have hins : (Cond.instantiable cls 6).before args s' = true := h _ (by simp [Bundle.ownAtoms])
  obtain ⟨vm₁, cX, kX, hfX, hkX, -, -, X₁, st1⟩ := Y.newCold hexec (own := own) (C := cls) (index := ik) (n := 6) hown' hk' hins hini'
    (g := F0 m pc ls rest) rfl (by rw [hb]; exact d0) (Nat.le_refl _) (Nat.le_refl _)
  generalize hT1 : (T.setVm vm₁).pushCell { cls := cX, slots := kX.instanceTypes.map defaultValue, vm := .none } = T1 at X₁ st1
  have hcat : (Value.ref T.heap.size).category = 1 := rfl
  have hcellA : T1.heap[T.heap.size]? = some (freshCell cX kX) := by rw [← hT1]; exact State.heap_pushCell_size _ _
  have d3' : decode c.code (pc + 3) = .ok (.dup, 1) := by rw [hb]; exact d3
  have d4' : decode c.code (pc + 4) = .ok (.ldc is, 2) := by rw [hb]; exact d4
  have hstr' : vk_R own is text sa s' := vk_R.warm hW0 hstr
  obtain ⟨U, hsteps, hrun, hend, hW, hsame, ce, hce, hO⟩ := X₁.ctorThrowS hexec htr (own := own) (cls := cls) (names := names) (ic := ic) hown' hcls hnames h (fun x hx => nomatch hx) hfX hkX hcellA (by rw [hhp, hT]; exact Nat.le_refl _) (msg := .ref sa) rfl
    (g := { method := m, pc := pc + 6, locals := ls, stack := .ref sa :: .ref T.heap.size :: .ref T.heap.size :: rest, locked := none }) rfl hsize rfl rfl (rest := rest) rfl
    (by rw [hb]; exact d6) (by rw [hb]; exact d9) hout hRframes (by simp only [List.map_cons, List.sum_cons, hcat]; omega) hlocks
  obtain ⟨f1, f2⟩ := vx_frame hsame
  rw [hhp] at f1 f2
  have hWs : s.WarmedH U.vm := State.WarmedH.trans hW0 hW
  have hcl : s.vm.findClass cls = some ce.cls := by
    have h9 := hO.cls
    rw [hvm] at h9
    exact h9
  have hall : s.sameButNew ({ U with vm := s.vm } : State) locs mc ms := by
    subst hA
    obtain ⟨e1, e2⟩ := hsame
    rw [State.setFrames_setFrames] at e1
    have h2 : (T.setVm s.vm).sameButNew ({ U with vm := s.vm } : State) [] (0 + 1) (0 + 6) := ⟨e1, e2⟩
    have h3 := X.same.trans h2
    rw [List.append_nil] at h3
    exact h3.mono hc hs
  refine ⟨U, ?_, .threw T.heap.size, hrun, hend, Or.inr ⟨T.heap.size, rfl, cls, ce, locs, hx U hWs.alike f1 (fun q hq => f2 q hq (fun z hz => nomatch hz)), hce, hO.vm, hcl, hWs, hall, hf⟩⟩
  refine st1 _ ?_
  show Steps p.tables e below (T1.setTop { method := m, pc := pc + 3, locals := ls, stack := .ref T.heap.size :: rest, locked := none }) _
  jvm_step X₁.here [X₁.here.top, hexec, d3', Value.category]
  exact X₁.ldcString hexec (own := own) (text := text) (index := is) (a := sa) hown' hstr'.1 hstr'.2
    (g := { method := m, pc := pc + 4, locals := ls, stack := .ref T.heap.size :: .ref T.heap.size :: rest, locked := none }) rfl d4' _ hsteps
/-- 'throw new E("text")', the text by a wide index -/
theorem vx_throwSW {cc : ByteArray} {pc : Nat} (hexec : p.tables.exec = Jvm.exec) (hb : c.code = cc) (hl : l.stackTraces = false) {own cls text : String} {names : List String} {ik is ic mc ms sa : Nat} {A : Nat → Prop}
    (hown : s.vm.findClass own = some m.cls) (hcls : Bundle.fit cls = true) (hnames : ∀ n ∈ names, Bundle.fit n = true)
    (hk : (Cond.classLink own ik cls).before args s = true) (hini : (Cond.initialized cls).before args s = true) (hstr : vk_R own is text sa s) (hat : ∀ w ∈ vx_atS own ic cls names, w.before args s = true)
    (hgood : ∀ w ∈ Cond.classLink own ik cls :: Cond.initialized cls :: vx_atS own ic cls names, vx_ot w = true)
    (hU : vx_Zq Bundle.tN "UNASSIGNED_STACK" Bundle.steD A s s.heap) (hN : vx_Zq Bundle.tN "SUPPRESSED_SENTINEL" Bundle.listD A s s.heap) (hS : va_S A s.heap H locs) (hsize : ls.size = c.maxLocals)
    (d0 : decode cc pc = .ok (.new ik, 3)) (d3 : decode cc (pc + 3) = .ok (.dup, 1)) (d4 : decode cc (pc + 4) = .ok (.ldc_w is, 3)) (d7 : decode cc (pc + 7) = .ok (.invokespecial ic, 3)) (d10 : decode cc (pc + 10) = .ok (.athrow, 1))
    (hout : ∀ x ∈ c.exceptionTable.toList, covers x (pc + 10) = false)
    (hRframes : names.length + 3 < R.frames) (hRlocals : (rest.map fun v => v.category).sum + (13 * (names.length + 1) + 43) ≤ R.locals) (hRcells : cells + 1 ≤ R.cells) (hRslots : slots + 6 ≤ R.slots) (hlocks : meth.locks = false)
    (hx : ∀ t : State, s.vm.Alike t.vm → H.size ≤ t.heap.size → (∀ q : Nat, q < H.size → t.heap[q]? = H[q]?) → XC cls s t)
    (hf : ∀ z ∈ locs, free z.base) (hc : cells + 1 ≤ mc) (hs : slots + 6 ≤ ms) :
    W p l e R s m args below meth c H locs cells slots (vx_MQ below Qc XC args s mc ms free) (F0 m pc ls rest) := by
  intro T hT X
  have htr : e.platform.stackTraces = false := (show e.platform.stackTraces = l.stackTraces by rw [X.admits.platform]).trans hl
  have Y := vx_rebase X (R' := { frames := R.frames, locals := R.locals, cells := 1, slots := 6 }) (Nat.le_refl _) (Nat.le_refl _) hRcells hRslots
  obtain ⟨s', hA⟩ : ∃ z, z = (T.setVm s.vm).setFrames (.invoking m args :: below) := ⟨_, rfl⟩
  rw [← hA] at Y
  have hvm : s'.vm = s.vm := by rw [hA]; rfl
  have hhp : s'.heap = H := by rw [hA]; exact hT
  have hW0 : s.WarmedH s'.vm := by rw [hvm]; exact State.WarmedH.refl s
  have hat' : ∀ w ∈ vx_atS own ic cls names, w.before args s' = true := fun w hw => vx_ot_at hW0 hvm.symm (hgood w (List.mem_cons_of_mem _ (List.mem_cons_of_mem _ hw))) (hat w hw)
  have hk' : (Cond.classLink own ik cls).before args s' = true := vx_ot_at hW0 hvm.symm (hgood _ List.mem_cons_self) hk
  have hini' : (Cond.initialized cls).before args s' = true := vx_ot_at hW0 hvm.symm (hgood _ (List.mem_cons_of_mem _ List.mem_cons_self)) hini
  have hU' : vx_Zq Bundle.tN "UNASSIGNED_STACK" Bundle.steD A s' s'.heap := by rw [hhp]; exact vx_Zq.moved hW0.alike (hU.kept hS.2.1)
  have hN' : vx_Zq Bundle.tN "SUPPRESSED_SENTINEL" Bundle.listD A s' s'.heap := by rw [hhp]; exact vx_Zq.moved hW0.alike (hN.kept hS.2.1)
  have h : ∀ w ∈ Bundle.ownAtoms own ic cls names, w.before args s' = true := vx_own hat' (vx_isRefq hU'.1) (vx_isRefq hN'.1) hU'.2.word hN'.2.word
  have hown' : s'.vm.findClass own = some m.cls := by rw [hvm]; exact hown
  have hins : (Cond.instantiable cls 6).before args s' = true := h _ (by simp [Bundle.ownAtoms])
  obtain ⟨vm₁, cX, kX, hfX, hkX, -, -, X₁, st1⟩ := Y.newCold hexec (own := own) (C := cls) (index := ik) (n := 6) hown' hk' hins hini'
    (g := F0 m pc ls rest) rfl (by rw [hb]; exact d0) (Nat.le_refl _) (Nat.le_refl _)
  generalize hT1 : (T.setVm vm₁).pushCell { cls := cX, slots := kX.instanceTypes.map defaultValue, vm := .none } = T1 at X₁ st1
  have hcat : (Value.ref T.heap.size).category = 1 := rfl
  have hcellA : T1.heap[T.heap.size]? = some (freshCell cX kX) := by rw [← hT1]; exact State.heap_pushCell_size _ _
  have d3' : decode c.code (pc + 3) = .ok (.dup, 1) := by rw [hb]; exact d3
  have d4' : decode c.code (pc + 4) = .ok (.ldc_w is, 3) := by rw [hb]; exact d4
  have hstr' : vk_R own is text sa s' := vk_R.warm hW0 hstr
  obtain ⟨U, hsteps, hrun, hend, hW, hsame, ce, hce, hO⟩ := X₁.ctorThrowS hexec htr (own := own) (cls := cls) (names := names) (ic := ic) hown' hcls hnames h (fun x hx => nomatch hx) hfX hkX hcellA (by rw [hhp, hT]; exact Nat.le_refl _) (msg := .ref sa) rfl
    (g := { method := m, pc := pc + 7, locals := ls, stack := .ref sa :: .ref T.heap.size :: .ref T.heap.size :: rest, locked := none }) rfl hsize rfl rfl (rest := rest) rfl
    (by rw [hb]; exact d7) (by rw [hb]; exact d10) hout hRframes (by simp only [List.map_cons, List.sum_cons, hcat]; omega) hlocks
  obtain ⟨f1, f2⟩ := vx_frame hsame
  rw [hhp] at f1 f2
  have hWs : s.WarmedH U.vm := State.WarmedH.trans hW0 hW
  have hcl : s.vm.findClass cls = some ce.cls := by
    have h9 := hO.cls
    rw [hvm] at h9
    exact h9
  have hall : s.sameButNew ({ U with vm := s.vm } : State) locs mc ms := by
    subst hA
    obtain ⟨e1, e2⟩ := hsame
    rw [State.setFrames_setFrames] at e1
    have h2 : (T.setVm s.vm).sameButNew ({ U with vm := s.vm } : State) [] (0 + 1) (0 + 6) := ⟨e1, e2⟩
    have h3 := X.same.trans h2
    rw [List.append_nil] at h3
    exact h3.mono hc hs
  refine ⟨U, ?_, .threw T.heap.size, hrun, hend, Or.inr ⟨T.heap.size, rfl, cls, ce, locs, hx U hWs.alike f1 (fun q hq => f2 q hq (fun z hz => nomatch hz)), hce, hO.vm, hcl, hWs, hall, hf⟩⟩
  refine st1 _ ?_
  show Steps p.tables e below (T1.setTop { method := m, pc := pc + 3, locals := ls, stack := .ref T.heap.size :: rest, locked := none }) _
  jvm_step X₁.here [X₁.here.top, hexec, d3', Value.category]
  exact X₁.ldcStringW hexec (own := own) (text := text) (index := is) (a := sa) hown' hstr'.1 hstr'.2
    (g := { method := m, pc := pc + 4, locals := ls, stack := .ref T.heap.size :: .ref T.heap.size :: rest, locked := none }) rfl d4' _ hsteps
end Ends
section Bodies
variable {l : Launch}
theorem vx_ofW {y : MethodName} {ws ws' : List Cond} {rm : Room} {Pc : Array Value → State → Prop} {Qc : Array Value → State → Outcome → State → Prop} {XC : String → State → State → Prop} {mc ms : Nat} {free : Addr → Prop} {cc : ByteArray} {maxL : Nat} {ret : Option FieldType}
    (hy : plainName y.cls = true) (hw : ws = Cond.code y cc maxL ret :: ws')
    (body : ∀ p e s m args below meth c s₁, BodyLoose p l y (headSpec ws rm) cc maxL ret e s m args below meth c s₁ → c.maxLocals = maxL → (∀ x ∈ c.exceptionTable.toList, False) → Pc args s →
      W p l e (headSpec ws rm).room s m args below meth c s.heap [] 0 0 (vx_MQ below Qc XC args s mc ms free) (entryFrame m args maxL)) : vx_Met l y ws rm Pc Qc XC mc ms free := by
  refine MetFree.of_bodyS (code := cc) (maxLocals := maxL) (ret := ret) hy ?_ ?_
  · intro args s m h hn
    obtain ⟨meth, c, h1, h2, h3, h4, h5, h6, -, -⟩ := Cond.code_spec hn (atoms_spec (ws := ws) h _ (by rw [hw]; exact List.mem_cons_self))
    exact ⟨meth, c, h1, h2, h3, h4, h5, h6⟩
  · intro p e s m args below meth c s₁ B hml hP _
    have hh0 : s₁.heap = s.heap := by rw [B.state]; rfl
    have ht : ∀ x ∈ c.exceptionTable.toList, False := by
      obtain ⟨meth9, c9, h1, h2, -, -, -, -, h7, -⟩ := Cond.code_spec B.named (atoms_spec (ws := ws) B.pre _ (by rw [hw]; exact List.mem_cons_self))
      cases Option.some.inj (h1.symm.trans B.method)
      cases Option.some.inj (h2.symm.trans (Stand.of_body B).code)
      intro x hx
      rw [Array.isEmpty_iff.mp h7] at hx
      cases hx
    obtain ⟨t, a1, o, b1, b2, b3⟩ := body p e s m args below meth c s₁ B hml ht hP s₁ hh0 (Stand.of_body B)
    exact ⟨t, o, a1, b1, b2, b3⟩
/-- the table of a body with handlers -/
theorem vx_table {p : Program} {x y : MethodName} {S : Spec} {cc bytes : ByteArray} {maxL maxL' : Nat} {ret ret' : Option FieldType} {e : Env} {s s₁ : State} {m : MethodId} {args : Array Value} {below : List Frame} {meth : Method} {c : Code} {hh : List (Nat × Nat × Nat × Nat)}
    (B : BodyLoose p l y S cc maxL ret e s m args below meth c s₁) (h : (Cond.codeWith y bytes maxL' ret' hh).before args s = true) : c.exceptionTable.toList = tableOf hh := by
  obtain ⟨m9, meth9, c9, hn9, h1, h2, -, -, h6, -⟩ := Cond.codeWith_spec h
  cases Option.some.inj (hn9.symm.trans B.named)
  cases Option.some.inj (h1.symm.trans B.method)
  cases Option.some.inj (h2.symm.trans (Stand.of_body B).code)
  rw [← h6, table_eq]
end Bodies
end VXA
/-! ===== END ===== -/
/-! ===== BEGIN a static call of a method with an exception table ===== -/
section VXS
variable {p : Program} {l : Launch} {e : Env} {R : Room} {s : State} {m : MethodId} {args : Array Value} {below : List Frame} {meth : Method} {c : Code} {T : State} {H : Heap} {locs : List Loc} {cells slots : Nat}
abbrev vx_CSW (R : Room) (s : State) (args : Array Value) (own : String) (index : Nat) (y : MethodName) (bytes : ByteArray) (maxL : Nat) (ret : Option FieldType) (hh : List (Nat × Nat × Nat × Nat)) (ws : List Cond) (rm : Room) (mc ms n : Nat) : Prop :=
  (rm.cells = mc ∧ rm.slots = ms ∧ rm.frames + 1 ≤ R.frames ∧ 8 + (maxL + 11) + rm.locals ≤ R.locals ∧ (∀ w ∈ ws, ∀ (a' : Array Value) (U : State), s.WarmedH U.vm → w.before a' U = true) ∧ Cond.codeWith y bytes maxL ret hh ∈ ws) ∧
  (Cond.codeWith y bytes maxL ret hh).before args s = true ∧ (Cond.initialized y.cls).before args s = true ∧ (y.cls ≠ "java/lang/invoke/MethodHandle" ∧ y.cls ≠ "java/lang/invoke/VarHandle") ∧
  (∀ sig, parseMethodDescriptor y.desc = some sig → n = sig.parameters.length) ∧ (Cond.methodLink own index y).before args s = true ∧ (Cond.static y).before args s = true
theorem vx_cwSW {own : String} {index maxL mc ms : Nat} {y : MethodName} {bytes : ByteArray} {ret : Option FieldType} {hh : List (Nat × Nat × Nat × Nat)} {Ts ws ws' : List Cond} {rm : Room} (n : Nat) (ht : ∀ w ∈ Ts, w.before args s = true) (hT : GoodIn Ts (va_wsS own index y ws)) (hw : ws = Cond.codeWith y bytes maxL ret hh :: ws') (hrc : rm.cells = mc) (hrs : rm.slots = ms)
    (hd : y.cls ≠ "java/lang/invoke/MethodHandle" ∧ y.cls ≠ "java/lang/invoke/VarHandle" ∧ (parseMethodDescriptor y.desc).map (fun d => d.parameters.length) = some n) (hR : rm.frames + 1 ≤ R.frames ∧ 8 + (maxL + 11) + rm.locals ≤ R.locals) :
    vx_CSW R s args own index y bytes maxL ret hh ws rm mc ms n := by
  have ok : ∀ w ∈ va_wsS own index y ws, w.before args s = true := fun w h => ht w (hT w h).1
  have hG : GoodIn Ts ws := fun w h => hT w (by unfold va_wsS; exact List.mem_append_right _ h)
  have hc : Cond.codeWith y bytes maxL ret hh ∈ ws := by rw [hw]; exact List.mem_cons_self
  refine ⟨⟨hrc, hrs, hR.1, hR.2, pay_in ht hG, hc⟩, ht _ (hG _ hc).1, ok _ (by simp [va_wsS]), ⟨hd.1, hd.2.1⟩, fun sig h => ?_, ok _ (by simp [va_wsS]), ok _ (by simp [va_wsS])⟩
  have h2 := hd.2.2
  rw [h] at h2
  exact (Option.some.inj h2).symm
theorem vx_callSW (X : Stand p l e R s m args below meth c T locs cells slots) (hexec : p.tables.exec = Jvm.exec) {own : String} {index : Nat} {y : MethodName} {bytes : ByteArray} {maxL : Nat} {ret : Option FieldType} {hh : List (Nat × Nat × Nat × Nat)}
    (hown : s.vm.findClass own = some m.cls) (hlink : (Cond.methodLink own index y).before args s = true) (hstat : (Cond.static y).before args s = true) (hinit : (Cond.initialized y.cls).before args s = true)
    (hcode : (Cond.codeWith y bytes maxL ret hh).before args s = true) (hy : y.cls ≠ "java/lang/invoke/MethodHandle" ∧ y.cls ≠ "java/lang/invoke/VarHandle")
    {W9 : Nat} {Pre : Pt → Array Value → Prop} {Post : Pt → Array Value → Option Value → Pt → Prop} (hK : Back l R p e below s args y 3 W9 Pre Post)
    {g : JFrame} (hg : g.method = m) (hsize : g.locals.size = c.maxLocals) {argsL rest : List Value} (hlen : ∀ sig, parseMethodDescriptor y.desc = some sig → argsL.length = sig.parameters.length)
    (hstack : g.stack = argsL.reverse ++ rest) (hW : 2 * g.monitorRoom + (rest.map fun v => v.category).sum ≤ W9) (hdg : decode c.code g.pc = .ok (.invokestatic index, 3))
    (hpre : ∀ vm₁, s.WarmedH vm₁ → Pre ⟨T.setVm vm₁, locs, cells, slots⟩ argsL.toArray) :
    ∃ (v : Option Value) (vm₁ : Vm) (B : Pt), s.WarmedH vm₁ ∧ Stand p l e R s m args below meth c B.U B.locs B.cells B.slots ∧ Post ⟨T.setVm vm₁, locs, cells, slots⟩ argsL.toArray v B ∧
      ∀ target, Steps p.tables e below (B.U.setTop { g with pc := g.pc + 3, stack := v.toList ++ rest }) target → Steps p.tables e below (T.setTop g) target := by
  obtain ⟨mk, methM, cM, hnamed, hmethM, -, -, -, -, -, -, hsigM⟩ := Cond.codeWith_spec hcode
  have hstatic : methM.isStatic = true := Cond.static_spec hnamed hmethM hstat
  obtain ⟨kP, hkP, -⟩ := className_of_methodNamed hnamed
  have hinitP : kP.init = .initialized := Cond.initialized_spec (findClass_of_methodNamed hnamed) hkP hinit
  obtain ⟨vm₁, X₁, hstep₁⟩ := X.invokestatic hexec hown hlink hnamed hmethM hstatic hkP hinitP hy (g := g) hg (argsL := argsL) (rest := rest) (hlen _ hsigM) hstack hdg
  obtain ⟨v, B, X', hpost, hsteps⟩ := hK m meth c ⟨T.setVm vm₁, locs, cells, slots⟩ { g with stack := rest } (.invokestatic index) mk argsL.toArray X₁ hg hsize hdg hW (X₁.named hnamed) (hpre vm₁ X₁.warmed)
  exact ⟨v, vm₁, B, X₁.warmed, X', hpost, fun target h => hstep₁ _ fun acts => by rw [doInvoke_state]; exact hsteps.trans h⟩
theorem vx_runSW {y : MethodName} {bytes cc : ByteArray} {maxL nL mc ms n index : Nat} {ret : Option FieldType} {hh : List (Nat × Nat × Nat × Nat)} {ws : List Cond} {rm : Room} {Pc : Array Value → State → Prop} {Qc : Array Value → State → Outcome → State → Prop} {free : Addr → Prop} {Ts : List Cond} {own : String} {As rest : List Value} {g : JFrame}
    (S : CallFix p m c cc nL s args Ts own) (hM : Met l y ws rm Pc Qc mc ms free) (cw : vx_CSW R s args own index y bytes maxL ret hh ws rm mc ms n) (hp : PreS s H Pc As)
    (hg : g.method = m) (hn : As.length = n) (hsize : g.locals.size = nL) (hstack : g.stack = As.reverse ++ rest) (hW : 2 * g.monitorRoom + (rest.map fun v => v.category).sum ≤ 8) (hdg : decode cc g.pc = .ok (.invokestatic index, 3)) (hf : cells + mc ≤ R.cells ∧ slots + ms ≤ R.slots) :
    va_Run p l e R s m args below meth c H locs cells slots mc ms g rest (Qc As.toArray) (free) := by
  obtain ⟨⟨hrc, hrs, hfr, hlo, hws, hcw⟩, hcode, hini, hy, hlen, hl, hstt⟩ := cw
  have hK : Back l R p e below s args y 3 8 (PreOf R mc ms Pc) (PostOf Qc mc ms free) := va_backW (hh := hh) (bytes := bytes) (maxL := maxL) (ret := ret) hM hp.1 hrc hrs hfr hlo hws hcw (fun a' U hW => word_at hW (Or.inl (by first | rfl | simp [Cond.onTables, Cond.keeps, Cond.steady])) hini)
  obtain ⟨hx, hb, hml, ho, -⟩ := S
  intro T hT X
  obtain ⟨v, vm₁, ⟨U', l2, c2, s2⟩, hW₁, X', ⟨g', mk, t, L, e1, e2, hq, h1, hL, h2, h3⟩, st⟩ := vx_callSW X hx (hh := hh) (bytes := bytes) (maxL := maxL) (ret := ret) ho hl hstt hini hcode hy hK hg (hsize.trans hml.symm) (argsL := As) (rest := rest) (fun sig h => hn.trans (hlen sig h)) hstack hW (by rw [hb]; exact hdg)
    (fun vm₁ hW₁ => ⟨hf.1, hf.2, hp.2 (T.setVm vm₁) hT hW₁⟩)
  dsimp only [Pt.U, Pt.locs, Pt.cells, Pt.slots] at X' e1 e2 h1 h2 h3 st
  subst h1; subst h2; subst h3
  exact ⟨v, (T.setVm vm₁).calling g' mk As.toArray, t, U', L, hT, X', hL, e1, e2, hq, st⟩
/-- not caught here, past rows that name other classes: it goes on to the caller -/
theorem vx_outP {p : Program} {l : Launch} {e : Env} {R : Room} {s : State} {m : MethodId} {args : Array Value} {below : List Frame} {meth : Method} {c : Code} {H : Heap} {locs : List Loc} {cells slots : Nat} {free : Addr → Prop} {ls : Array Slot} {rest : List Value} {Qc : Array Value → State → Outcome → State → Prop} {XC : String → State → State → Prop}
    {pc : Nat} {own E : String} {ce : Cell} {q : Addr} {mc ms : Nat} (hown : s.vm.findClass own = some m.cls) (hlocks : meth.locks = false)
    (hpass : ∀ z ∈ c.exceptionTable.toList, covers z pc = false ∨ (z.catchType ≠ 0 ∧ ∃ nm : String, (Cond.classLink own z.catchType nm).before args s = true ∧ va_Nc E nm s)) (hcell : H[q]? = some ce) (hv : ce.vm = .none) (hcl : s.vm.findClass E = some ce.cls)
    (hx : ∀ t : State, t.heap = H → s.vm.Alike t.vm → XC E s t) (hf : ∀ z ∈ locs, free z.base) (hc : cells ≤ mc) (hs : slots ≤ ms) :
    vx_W p l e R s m args below meth c H locs cells slots (vx_MQ below Qc XC args s mc ms free) (F0 m pc ls rest) q := by
  intro T hT X
  have hpl : e.platform.magicAccessors = ({} : Platform).magicAccessors := by rw [X.admits.platform]
  obtain ⟨vm', hW', X', st⟩ := X.outThrough hlocks q (g := F0 m pc ls rest) rfl rfl rfl (cell := ce) (by rw [hT]; exact hcell) (by rw [hv]; rfl)
    (by obtain ⟨k9, h9, -⟩ := Vm.findClass_spec hcl; exact ⟨k9, h9⟩) (fun z hz => by
      rcases hpass z hz with h | ⟨hz0, nm, hl1, hn1⟩
      · exact Or.inl h
      · obtain ⟨c6, hc6, hcl6⟩ := Cond.classLink_spec hown hl1 e.platform hpl
        obtain ⟨a8, b8, h1, h2, h3⟩ := hn1
        cases Option.some.inj (h1.symm.trans hcl)
        cases Option.some.inj (h2.symm.trans hc6)
        exact Or.inr ⟨hz0, _, hcl6, h3⟩)
  obtain ⟨g₀, hfr⟩ := X'.frames_eq
  have hcell9 : ((T.setVm vm').setFrames (.throwing q :: below)).heap[q]? = some ce := by
    show T.heap[q]? = some ce
    rw [hT]; exact hcell
  have hend : Ended ((T.setVm vm').setFrames (.throwing q :: below)) below (.threw q) := State.frames_setFrames _ (State.cur_lt_of_frames hfr)
  refine ⟨(T.setVm vm').setFrames (.throwing q :: below), ?_, .threw q, X'.here.running, hend, Or.inr ⟨q, rfl, E, ce, locs, hx _ hT (X'.ends _).1.alike, hcell9, hv, hcl, (X'.ends _).1, (X'.ends _).2.mono hc hs, hf⟩⟩
  rw [X.pushThrowing_eq]
  exact st
/-- a thing of a world lies in the heap -/
theorem vx_lt {D : va_G} {cl : List vw_C} {ws : va_W} {H1 : Heap} (h : va_P D cl ws H1) {k : Nat} {q : Nat × va_E} (hk : ws[k]? = some q) : q.1 < H1.size := (h k q hk).lt
end VXS
/-! ===== END ===== -/
/-! ===== BEGIN methods with a table of their own: called by a name, returning or throwing ===== -/
section VXH
/-! vx_backW, vx_callVX, vx_callSX, vx_callVW, vx_runVW, vx_runVX, vx_runSX, vx_ofWH follow the same proofs as their sisters above (Free/Laws.lean, Shelf42/LK1.lean); vx_outP calls Shelf42/NT130.lean (outThrough). -/
section
variable {l : Launch} {R : Room} {p : Program} {e : Env} {below : List Frame} {s : State} {sargs : Array Value} {y : MethodName} {len W9 : Nat}
theorem vx_backW {ws : List Cond} {rm : Room} {Pc : Array Value → State → Prop} {Qc : Array Value → State → Outcome → State → Prop} {XC : String → State → State → Prop} {mc ms : Nat} {free : Addr → Prop} {bytes : ByteArray} {maxL : Nat} {ret : Option FieldType} {hh : List (Nat × Nat × Nat × Nat)}
    (hM : vx_Met l y ws rm Pc Qc XC mc ms free) (hblind : FrameBlind Pc) (hrc : rm.cells = mc) (hrs : rm.slots = ms)
    (hframes : rm.frames + 1 ≤ R.frames) (hlocals : W9 + (maxL + 11) + rm.locals ≤ R.locals)
    (hws : ∀ w ∈ ws, ∀ a' U, s.WarmedH U.vm → w.before a' U = true) (hcode : Cond.codeWith y bytes maxL ret hh ∈ ws) (hinit : ∀ a' U, s.WarmedH U.vm → (Cond.initialized y.cls).before a' U = true) :
    vx_Back l R p e below s sargs y len W9 (PreOf R mc ms Pc) (PostOf Qc mc ms free) (vx_Post XC mc ms free) := by
  intro m meth c A g ig mk a X hg hsize hdg hW hn hp
  have h1 : (headSpec ws rm).pre.before a A.U = true := atoms_intro fun w hw => hws w hw _ _ X.warmed
  have h2 : (Cond.codeWith y bytes maxL ret hh).before a A.U = true := hws _ hcode _ _ X.warmed
  have h3 : (Cond.initialized y.cls).before a A.U = true := hinit _ _ X.warmed
  have h4 : A.cells + (headSpec ws rm).room.cells ≤ R.cells := by rw [show (headSpec ws rm).room.cells = mc from hrc]; exact hp.1
  have h5 : A.slots + (headSpec ws rm).room.slots ≤ R.slots := by rw [show (headSpec ws rm).room.slots = ms from hrs]; exact hp.2.1
  have hPc : Pc a (A.U.calling g mk a) := hblind _ _ _ _ hp.2.2
  obtain ⟨U, Ls, c0, s0⟩ := A
  dsimp only [Pt.U, Pt.locs, Pt.cells, Pt.slots] at h1 h2 h3 h4 h5 X hn hPc ⊢
  obtain ⟨m9, methY, cY, hn9, hmY, hcY, -, hlY, -⟩ := Cond.codeWith_spec h2
  cases Option.some.inj (hn9.symm.trans hn)
  obtain ⟨kY, hkY, -⟩ := className_of_methodNamed hn
  have hinitY : kY.init = .initialized := Cond.initialized_spec (findClass_of_methodNamed hn) hkY h3
  have h : At U g.method c below := by rw [hg]; exact X.here
  have hlocals9 : W9 + (maxL + 11) + (headSpec ws rm).room.locals ≤ R.locals := hlocals
  have happ : (headSpec ws rm).appliesLoose y e.platform (U.calling g mk a) = true :=
    Spec.appliesLoose_calling (g := g) h hdg hn hkY hinitY
      (X.room_calling (g := g) (R' := (headSpec ws rm).room) hsize hmY hcY hframes (by rw [hlY]; omega) h4 h5) h1
  obtain ⟨mid, hmid⟩ := h.above
  have hfr : (U.setTop g).frames = (.java g :: mid) ++ below := by rw [State.frames_setTop' g h.top, hmid]; rfl
  obtain ⟨o, s₂, hsteps, -, hend, hq⟩ := Steps.callFree hM p X.admits X.cas X.clock (acts := []) hfr happ hPc trivial
  have hq' : vx_Q Qc XC mc ms free a (U.calling g mk a) o s₂ := hq
  rw [State.frames_setTop' g h.top] at hend
  obtain ⟨g₀, hg0⟩ := Option.isSome_iff_exists.mp h.top
  obtain ⟨r, hr⟩ := State.topJava?_eq_some.mp hg0
  have hr' : (({ U with heap := s₂.heap, slotsUsed := s₂.slotsUsed } : State).setVm s₂.vm).frames = .java g₀ :: r := hr
  rcases hq' with ⟨hqc, L, hfe, hL⟩ | ⟨q, rfl, E, ce, L, hx, hce, hcv, hcl, hW₂, hsm, hL⟩
  · obtain ⟨⟨v, rfl⟩, hW₂, e2, q2, q3, q4, q5, q6⟩ := id hfe
    have e3 : s₂ = ({ (U.calling g mk a).setFrames s₂.frames with heap := s₂.heap, slotsUsed := s₂.slotsUsed } : State).setVm s₂.vm := by
      have : s₂ = ({ s₂ with vm := (U.calling g mk a).vm } : State).setVm s₂.vm := rfl
      rw [e2] at this
      exact this
    obtain ⟨c₂, i₂, len₂, hc₂, hd₂, hf₂⟩ := hend
    have hW' : U.WarmedH s₂.vm := hW₂
    have hcc : c₂ = c := by
      have h1 : s₂.code? g.method = U.code? g.method := by
        rw [State.code?_eq, State.code?_eq, hW'.alike.method?]
      exact Option.some.inj (hc₂.symm.trans (h1.trans h.code))
    subst hcc
    have hlen : len₂ = len := by rw [hdg] at hd₂; cases hd₂; rfl
    subst hlen
    have hs₂ : s₂ = (({ U with heap := s₂.heap, slotsUsed := s₂.slotsUsed } : State).setVm s₂.vm).setTop { g with pc := g.pc + len₂, stack := v.toList ++ g.stack } := by
      refine e3.trans ?_
      rw [hf₂, State.calling_eq h.top, State.setFrames_setFrames, State.setTop_of_frames _ hr', hr]
      rfl
    have hsame : U.sameButNew ({ U with heap := s₂.heap, slotsUsed := s₂.slotsUsed } : State) L mc ms := by
      refine ⟨?_, q2, q3, q4, q5, q6⟩
      obtain ⟨t, ht, -⟩ := State.frames_cons hr
      show ({ U with heap := s₂.heap, slotsUsed := s₂.slotsUsed } : State) = { U.setFrames U.frames with heap := s₂.heap, slotsUsed := s₂.slotsUsed }
      rw [State.setFrames_self ht]
    subst hg
    refine Or.inl ⟨v, ⟨(({ U with heap := s₂.heap, slotsUsed := s₂.slotsUsed } : State).setVm s₂.vm), Ls ++ L, c0 + mc, s0 + ms⟩,
      ⟨X.admits, X.cas, X.clock, X.frames, X.room, X.hears, X.method, X.code, (X.here.setHeapUsed s₂.heap s₂.slotsUsed).setVm hW'.alike, X.tail, State.WarmedH.trans X.warmed hW', X.limits, X.bytes, X.same.trans (hsame.setVm s.vm)⟩,
      ⟨g, mk, s₂, L, rfl, rfl, hqc, rfl, hL, rfl, rfl⟩, ?_⟩
    show Steps p.tables e below _ ((({ U with heap := s₂.heap, slotsUsed := s₂.slotsUsed } : State).setVm s₂.vm).setTop { g with pc := g.pc + len₂, stack := v.toList ++ g.stack })
    rw [← hs₂]
    exact hsteps
  · obtain ⟨e2, q2, q3, q4, q5, q6⟩ := id hsm
    have e3 : s₂ = ({ (U.calling g mk a).setFrames s₂.frames with heap := s₂.heap, slotsUsed := s₂.slotsUsed } : State).setVm s₂.vm := by
      have : s₂ = ({ s₂ with vm := (U.calling g mk a).vm } : State).setVm s₂.vm := rfl
      rw [e2] at this
      exact this
    have hf₂ : s₂.frames = .throwing q :: .java g :: U.frames.tail := hend
    have hW' : U.WarmedH s₂.vm := hW₂
    have hs₂ : s₂ = ((({ U with heap := s₂.heap, slotsUsed := s₂.slotsUsed } : State).setVm s₂.vm).setTop g).pushFrame (.throwing q) := by
      refine e3.trans ?_
      rw [hf₂, State.calling_eq h.top, State.setFrames_setFrames, State.pushFrame, State.frames_setTop _ hr', State.setTop_of_frames _ hr', State.setFrames_setFrames, hr]
      rfl
    have hsame : U.sameButNew ({ U with heap := s₂.heap, slotsUsed := s₂.slotsUsed } : State) L mc ms := by
      refine ⟨?_, q2, q3, q4, q5, q6⟩
      obtain ⟨t, ht, -⟩ := State.frames_cons hr
      show ({ U with heap := s₂.heap, slotsUsed := s₂.slotsUsed } : State) = { U.setFrames U.frames with heap := s₂.heap, slotsUsed := s₂.slotsUsed }
      rw [State.setFrames_self ht]
    subst hg
    refine Or.inr ⟨q, ⟨(({ U with heap := s₂.heap, slotsUsed := s₂.slotsUsed } : State).setVm s₂.vm), Ls ++ L, c0 + mc, s0 + ms⟩,
      ⟨X.admits, X.cas, X.clock, X.frames, X.room, X.hears, X.method, X.code, (X.here.setHeapUsed s₂.heap s₂.slotsUsed).setVm hW'.alike, X.tail, State.WarmedH.trans X.warmed hW', X.limits, X.bytes, X.same.trans (hsame.setVm s.vm)⟩,
      ⟨g, mk, s₂, L, E, ce, rfl, rfl, hx, hce, hcv, hcl, rfl, hL, rfl, rfl⟩, ?_⟩
    show Steps p.tables e below _ (((({ U with heap := s₂.heap, slotsUsed := s₂.slotsUsed } : State).setVm s₂.vm).setTop g).pushFrame (.throwing q))
    rw [← hs₂]
    exact hsteps
end
variable {p : Program} {l : Launch} {e : Env} {R : Room} {s : State} {m : MethodId} {args : Array Value} {below : List Frame} {meth : Method} {c : Code} {T : State} {H : Heap} {locs : List Loc} {cells slots : Nat}
theorem vx_callVX (X : Stand p l e R s m args below meth c T locs cells slots) (hexec : p.tables.exec = Jvm.exec) {own C : String} {index : Nat} {y : MethodName} {bytes : ByteArray} {maxL : Nat} {ret : Option FieldType} {hh : List (Nat × Nat × Nat × Nat)}
    (hown : s.vm.findClass own = some m.cls) (hlink : (Cond.methodLink own index y).before args s = true) (hinst : (Cond.instanceMethod y).before args s = true) (hsel : (Cond.selects C y y).before args s = true)
    (hcode : (Cond.codeWith y bytes maxL ret hh).before args s = true) (hy : y.cls ≠ "java/lang/invoke/MethodHandle" ∧ y.cls ≠ "java/lang/invoke/VarHandle")
    {W9 : Nat} {Pre : Pt → Array Value → Prop} {Post : Pt → Array Value → Option Value → Pt → Prop} {PostX : Pt → Array Value → Addr → Pt → Prop} (hK : vx_Back l R p e below s args y 3 W9 Pre Post PostX)
    {b : Addr} {cellB : Cell} (hcell : T.heap[b]? = some cellB) (hobj : cellB.vm.isStatics = false) (hcls : s.vm.findClass C = some cellB.cls)
    {g : JFrame} (hg : g.method = m) (hsize : g.locals.size = c.maxLocals) {argsL rest : List Value} (hlen : ∀ sig, parseMethodDescriptor y.desc = some sig → argsL.length = sig.parameters.length)
    (hstack : g.stack = argsL.reverse ++ .ref b :: rest) (hW : 2 * g.monitorRoom + (rest.map fun v => v.category).sum ≤ W9) (hdg : decode c.code g.pc = .ok (.invokevirtual index, 3))
    (hpre : ∀ vm₁, s.WarmedH vm₁ → Pre ⟨T.setVm vm₁, locs, cells, slots⟩ (Value.ref b :: argsL).toArray) :
    (∃ (v : Option Value) (vm₁ : Vm) (B : Pt), s.WarmedH vm₁ ∧ Stand p l e R s m args below meth c B.U B.locs B.cells B.slots ∧ Post ⟨T.setVm vm₁, locs, cells, slots⟩ (Value.ref b :: argsL).toArray v B ∧
      ∀ target, Steps p.tables e below (B.U.setTop { g with pc := g.pc + 3, stack := v.toList ++ rest }) target → Steps p.tables e below (T.setTop g) target) ∨
    (∃ (q : Addr) (vm₁ : Vm) (B : Pt), s.WarmedH vm₁ ∧ Stand p l e R s m args below meth c B.U B.locs B.cells B.slots ∧ PostX ⟨T.setVm vm₁, locs, cells, slots⟩ (Value.ref b :: argsL).toArray q B ∧
      Steps p.tables e below (T.setTop g) ((B.U.setTop { g with stack := rest }).pushFrame (.throwing q))) := by
  obtain ⟨mk, methM, hnamed, hmethM, hstM, habM⟩ := Cond.instanceMethod_spec hinst
  obtain ⟨m8, methM', cM, hn8, hmethM', -, -, -, -, -, -, hsigM⟩ := Cond.codeWith_spec hcode
  cases Option.some.inj (hn8.symm.trans hnamed)
  cases hmethM.symm.trans hmethM'
  obtain ⟨c2, r2, m2, q1, q2, q3, q4, kP, hkP, hkPi⟩ := Cond.selects_spec hsel
  cases hcls.symm.trans q1
  cases (State.methodFound?_of_named hnamed hy).symm.trans q2
  cases hnamed.symm.trans q3
  have hselP : selectMethod e.platform s.vm cellB.cls mk = .method mk := by rw [Launch.admits_selectMethod X.admits]; exact q4
  obtain ⟨vm₁, X₁, hstep₁⟩ := X.invokevirtual hexec hown hlink hnamed hmethM hstM hkP hkPi hy (a := b) (cell := cellB) hcell
    (fun z h => by rw [h] at hobj; cases hobj) hselP hmethM habM hkP hkPi (g := g) hg (argsL := argsL) (rest := rest) (hlen _ hsigM) hstack hdg
  rcases hK m meth c ⟨T.setVm vm₁, locs, cells, slots⟩ { g with stack := rest } (.invokevirtual index) mk (Value.ref b :: argsL).toArray X₁ hg hsize hdg hW (X₁.named hnamed) (hpre vm₁ X₁.warmed) with ⟨v, B, X', hpost, hsteps⟩ | ⟨q, B, X', hpost, hsteps⟩
  · exact Or.inl ⟨v, vm₁, B, X₁.warmed, X', hpost, fun target h => hstep₁ _ fun acts => by rw [doInvoke_state]; exact hsteps.trans h⟩
  · exact Or.inr ⟨q, vm₁, B, X₁.warmed, X', hpost, hstep₁ _ fun acts => by rw [doInvoke_state]; exact hsteps⟩
theorem vx_callSX (X : Stand p l e R s m args below meth c T locs cells slots) (hexec : p.tables.exec = Jvm.exec) {own : String} {index : Nat} {y : MethodName} {bytes : ByteArray} {maxL : Nat} {ret : Option FieldType} {hh : List (Nat × Nat × Nat × Nat)}
    (hown : s.vm.findClass own = some m.cls) (hlink : (Cond.methodLink own index y).before args s = true) (hstat : (Cond.static y).before args s = true) (hinit : (Cond.initialized y.cls).before args s = true)
    (hcode : (Cond.codeWith y bytes maxL ret hh).before args s = true) (hy : y.cls ≠ "java/lang/invoke/MethodHandle" ∧ y.cls ≠ "java/lang/invoke/VarHandle")
    {W9 : Nat} {Pre : Pt → Array Value → Prop} {Post : Pt → Array Value → Option Value → Pt → Prop} {PostX : Pt → Array Value → Addr → Pt → Prop} (hK : vx_Back l R p e below s args y 3 W9 Pre Post PostX)
    {g : JFrame} (hg : g.method = m) (hsize : g.locals.size = c.maxLocals) {argsL rest : List Value} (hlen : ∀ sig, parseMethodDescriptor y.desc = some sig → argsL.length = sig.parameters.length)
    (hstack : g.stack = argsL.reverse ++ rest) (hW : 2 * g.monitorRoom + (rest.map fun v => v.category).sum ≤ W9) (hdg : decode c.code g.pc = .ok (.invokestatic index, 3))
    (hpre : ∀ vm₁, s.WarmedH vm₁ → Pre ⟨T.setVm vm₁, locs, cells, slots⟩ argsL.toArray) :
    (∃ (v : Option Value) (vm₁ : Vm) (B : Pt), s.WarmedH vm₁ ∧ Stand p l e R s m args below meth c B.U B.locs B.cells B.slots ∧ Post ⟨T.setVm vm₁, locs, cells, slots⟩ argsL.toArray v B ∧
      ∀ target, Steps p.tables e below (B.U.setTop { g with pc := g.pc + 3, stack := v.toList ++ rest }) target → Steps p.tables e below (T.setTop g) target) ∨
    (∃ (q : Addr) (vm₁ : Vm) (B : Pt), s.WarmedH vm₁ ∧ Stand p l e R s m args below meth c B.U B.locs B.cells B.slots ∧ PostX ⟨T.setVm vm₁, locs, cells, slots⟩ argsL.toArray q B ∧
      Steps p.tables e below (T.setTop g) ((B.U.setTop { g with stack := rest }).pushFrame (.throwing q))) := by
  obtain ⟨mk, methM, cM, hnamed, hmethM, -, -, -, -, -, -, hsigM⟩ := Cond.codeWith_spec hcode
  have hstatic : methM.isStatic = true := Cond.static_spec hnamed hmethM hstat
  obtain ⟨kP, hkP, -⟩ := className_of_methodNamed hnamed
  have hinitP : kP.init = .initialized := Cond.initialized_spec (findClass_of_methodNamed hnamed) hkP hinit
  obtain ⟨vm₁, X₁, hstep₁⟩ := X.invokestatic hexec hown hlink hnamed hmethM hstatic hkP hinitP hy (g := g) hg (argsL := argsL) (rest := rest) (hlen _ hsigM) hstack hdg
  rcases hK m meth c ⟨T.setVm vm₁, locs, cells, slots⟩ { g with stack := rest } (.invokestatic index) mk argsL.toArray X₁ hg hsize hdg hW (X₁.named hnamed) (hpre vm₁ X₁.warmed) with ⟨v, B, X', hpost, hsteps⟩ | ⟨q, B, X', hpost, hsteps⟩
  · exact Or.inl ⟨v, vm₁, B, X₁.warmed, X', hpost, fun target h => hstep₁ _ fun acts => by rw [doInvoke_state]; exact hsteps.trans h⟩
  · exact Or.inr ⟨q, vm₁, B, X₁.warmed, X', hpost, hstep₁ _ fun acts => by rw [doInvoke_state]; exact hsteps⟩
theorem vx_callVW (X : Stand p l e R s m args below meth c T locs cells slots) (hexec : p.tables.exec = Jvm.exec) {own C : String} {index : Nat} {y : MethodName} {bytes : ByteArray} {maxL : Nat} {ret : Option FieldType} {hh : List (Nat × Nat × Nat × Nat)}
    (hown : s.vm.findClass own = some m.cls) (hlink : (Cond.methodLink own index y).before args s = true) (hinst : (Cond.instanceMethod y).before args s = true) (hsel : (Cond.selects C y y).before args s = true)
    (hcode : (Cond.codeWith y bytes maxL ret hh).before args s = true) (hy : y.cls ≠ "java/lang/invoke/MethodHandle" ∧ y.cls ≠ "java/lang/invoke/VarHandle")
    {W9 : Nat} {Pre : Pt → Array Value → Prop} {Post : Pt → Array Value → Option Value → Pt → Prop} (hK : Back l R p e below s args y 3 W9 Pre Post)
    {b : Addr} {cellB : Cell} (hcell : T.heap[b]? = some cellB) (hobj : cellB.vm.isStatics = false) (hcls : s.vm.findClass C = some cellB.cls)
    {g : JFrame} (hg : g.method = m) (hsize : g.locals.size = c.maxLocals) {argsL rest : List Value} (hlen : ∀ sig, parseMethodDescriptor y.desc = some sig → argsL.length = sig.parameters.length)
    (hstack : g.stack = argsL.reverse ++ .ref b :: rest) (hW : 2 * g.monitorRoom + (rest.map fun v => v.category).sum ≤ W9) (hdg : decode c.code g.pc = .ok (.invokevirtual index, 3))
    (hpre : ∀ vm₁, s.WarmedH vm₁ → Pre ⟨T.setVm vm₁, locs, cells, slots⟩ (Value.ref b :: argsL).toArray) :
    ∃ (v : Option Value) (vm₁ : Vm) (B : Pt), s.WarmedH vm₁ ∧ Stand p l e R s m args below meth c B.U B.locs B.cells B.slots ∧ Post ⟨T.setVm vm₁, locs, cells, slots⟩ (Value.ref b :: argsL).toArray v B ∧
      ∀ target, Steps p.tables e below (B.U.setTop { g with pc := g.pc + 3, stack := v.toList ++ rest }) target → Steps p.tables e below (T.setTop g) target := by
  obtain ⟨mk, methM, hnamed, hmethM, hstM, habM⟩ := Cond.instanceMethod_spec hinst
  obtain ⟨m8, methM', cM, hn8, hmethM', -, -, -, -, -, -, hsigM⟩ := Cond.codeWith_spec hcode
  cases Option.some.inj (hn8.symm.trans hnamed)
  cases hmethM.symm.trans hmethM'
  obtain ⟨c2, r2, m2, q1, q2, q3, q4, kP, hkP, hkPi⟩ := Cond.selects_spec hsel
  cases hcls.symm.trans q1
  cases (State.methodFound?_of_named hnamed hy).symm.trans q2
  cases hnamed.symm.trans q3
  have hselP : selectMethod e.platform s.vm cellB.cls mk = .method mk := by rw [Launch.admits_selectMethod X.admits]; exact q4
  obtain ⟨vm₁, X₁, hstep₁⟩ := X.invokevirtual hexec hown hlink hnamed hmethM hstM hkP hkPi hy (a := b) (cell := cellB) hcell
    (fun z h => by rw [h] at hobj; cases hobj) hselP hmethM habM hkP hkPi (g := g) hg (argsL := argsL) (rest := rest) (hlen _ hsigM) hstack hdg
  obtain ⟨v, B, X', hpost, hsteps⟩ := hK m meth c ⟨T.setVm vm₁, locs, cells, slots⟩ { g with stack := rest } (.invokevirtual index) mk (Value.ref b :: argsL).toArray X₁ hg hsize hdg hW (X₁.named hnamed) (hpre vm₁ X₁.warmed)
  exact ⟨v, vm₁, B, X₁.warmed, X', hpost, fun target h => hstep₁ _ fun acts => by rw [doInvoke_state]; exact hsteps.trans h⟩
abbrev vx_CVW (R : Room) (s : State) (args : Array Value) (own C : String) (index : Nat) (y : MethodName) (bytes : ByteArray) (maxL : Nat) (ret : Option FieldType) (hh : List (Nat × Nat × Nat × Nat)) (ws : List Cond) (rm : Room) (mc ms n : Nat) : Prop :=
  (rm.cells = mc ∧ rm.slots = ms ∧ rm.frames + 1 ≤ R.frames ∧ 8 + (maxL + 11) + rm.locals ≤ R.locals ∧ (∀ w ∈ ws, ∀ (a' : Array Value) (U : State), s.WarmedH U.vm → w.before a' U = true) ∧ Cond.codeWith y bytes maxL ret hh ∈ ws) ∧
  (Cond.codeWith y bytes maxL ret hh).before args s = true ∧ (Cond.initialized y.cls).before args s = true ∧ (y.cls ≠ "java/lang/invoke/MethodHandle" ∧ y.cls ≠ "java/lang/invoke/VarHandle") ∧
  (∀ sig, parseMethodDescriptor y.desc = some sig → n = sig.parameters.length) ∧ (Cond.methodLink own index y).before args s = true ∧ (Cond.instanceMethod y).before args s = true ∧ (Cond.selects C y y).before args s = true
theorem vx_cwVW {own C : String} {index maxL mc ms : Nat} {y : MethodName} {bytes : ByteArray} {ret : Option FieldType} {hh : List (Nat × Nat × Nat × Nat)} {Ts ws ws' : List Cond} {rm : Room} (n : Nat) (ht : ∀ w ∈ Ts, w.before args s = true) (hT : GoodIn Ts (wsV own index C y ws)) (hw : ws = Cond.codeWith y bytes maxL ret hh :: ws') (hrc : rm.cells = mc) (hrs : rm.slots = ms)
    (hd : y.cls = C ∧ y.cls ≠ "java/lang/invoke/MethodHandle" ∧ y.cls ≠ "java/lang/invoke/VarHandle" ∧ (parseMethodDescriptor y.desc).map (fun d => d.parameters.length) = some n) (hR : rm.frames + 1 ≤ R.frames ∧ 8 + (maxL + 11) + rm.locals ≤ R.locals) :
    vx_CVW R s args own C index y bytes maxL ret hh ws rm mc ms n := by
  obtain ⟨hC, hd⟩ := hd
  subst hC
  have ok : ∀ w ∈ wsV own index y.cls y ws, w.before args s = true := fun w h => ht w (hT w h).1
  have hG : GoodIn Ts ws := fun w h => hT w (by unfold wsV; exact List.mem_append_right _ h)
  have hc : Cond.codeWith y bytes maxL ret hh ∈ ws := by rw [hw]; exact List.mem_cons_self
  refine ⟨⟨hrc, hrs, hR.1, hR.2, pay_in ht hG, hc⟩, ht _ (hG _ hc).1, ok _ (by simp [wsV]), ⟨hd.1, hd.2.1⟩, fun sig h => ?_, ok _ (by simp [wsV]), ok _ (by simp [wsV]), ok _ (by simp [wsV])⟩
  have h2 := hd.2.2
  rw [h] at h2
  exact (Option.some.inj h2).symm
theorem vx_runVW {y : MethodName} {bytes cc : ByteArray} {maxL nL mc ms n index : Nat} {ret : Option FieldType} {hh : List (Nat × Nat × Nat × Nat)} {ws : List Cond} {rm : Room} {Pc : Array Value → State → Prop} {Qc : Array Value → State → Outcome → State → Prop} {free : Addr → Prop} {Ts : List Cond} {own C : String} {b : Addr} {As rest : List Value} {g : JFrame}
    (S : CallFix p m c cc nL s args Ts own) (hM : Met l y ws rm Pc Qc mc ms free) (cw : vx_CVW R s args own C index y bytes maxL ret hh ws rm mc ms n) (hp : PreV s H C b Pc As)
    (hg : g.method = m) (hn : As.length = n) (hsize : g.locals.size = nL) (hstack : g.stack = As.reverse ++ .ref b :: rest) (hW : 2 * g.monitorRoom + (rest.map fun v => v.category).sum ≤ 8) (hdg : decode cc g.pc = .ok (.invokevirtual index, 3)) (hf : cells + mc ≤ R.cells ∧ slots + ms ≤ R.slots) :
    va_Run p l e R s m args below meth c H locs cells slots mc ms g rest (Qc (Value.ref b :: As).toArray) free := by
  obtain ⟨⟨hrc, hrs, hfr, hlo, hws, hcw⟩, hcode, hini, hy, hlen, hl, hin, hse⟩ := cw
  have hK : Back l R p e below s args y 3 8 (PreOf R mc ms Pc) (PostOf Qc mc ms free) := va_backW (hh := hh) (bytes := bytes) (maxL := maxL) (ret := ret) hM hp.1 hrc hrs hfr hlo hws hcw (fun a' U hW => word_at hW (Or.inl (by first | rfl | simp [Cond.onTables, Cond.keeps, Cond.steady])) hini)
  obtain ⟨hx, hb, hml, ho, -⟩ := S
  obtain ⟨-, ⟨cellB, hcB, hoB, hclB⟩, hPc⟩ := hp
  intro T hT X
  obtain ⟨v, vm₁, ⟨U', l2, c2, s2⟩, hW₁, X', ⟨g', mk, t, L, e1, e2, hq, h1, hL, h2, h3⟩, st⟩ := vx_callVW X hx (C := C) (hh := hh) (bytes := bytes) (maxL := maxL) (ret := ret) ho hl hin hse hcode hy hK (by rw [hT]; exact hcB) hoB hclB hg (hsize.trans hml.symm) (argsL := As) (rest := rest) (fun sig h => hn.trans (hlen sig h)) hstack hW (by rw [hb]; exact hdg)
    (fun vm₁ hW₁ => ⟨hf.1, hf.2, hPc (T.setVm vm₁) hT hW₁⟩)
  dsimp only [Pt.U, Pt.locs, Pt.cells, Pt.slots] at X' e1 e2 h1 h2 h3 st
  subst h1; subst h2; subst h3
  exact ⟨v, (T.setVm vm₁).calling g' mk (Value.ref b :: As).toArray, t, U', L, hT, X', hL, e1, e2, hq, st⟩
section
variable {y : MethodName} {bytes cc : ByteArray} {maxL nL mc ms n index : Nat} {ret : Option FieldType} {ws : List Cond} {rm : Room} {Pc : Array Value → State → Prop} {Qc : Array Value → State → Outcome → State → Prop} {XC : String → State → State → Prop} {free : Addr → Prop} {Ts : List Cond} {own C : String} {b : Addr} {As rest : List Value} {g : JFrame}
theorem vx_runVX {hh : List (Nat × Nat × Nat × Nat)} (S : CallFix p m c cc nL s args Ts own) (hM : vx_Met l y ws rm Pc Qc XC mc ms free) (cw : vx_CVW R s args own C index y bytes maxL ret hh ws rm mc ms n) (hp : PreV s H C b Pc As)
    (hg : g.method = m) (hn : As.length = n) (hsize : g.locals.size = nL) (hstack : g.stack = As.reverse ++ .ref b :: rest) (hW : 2 * g.monitorRoom + (rest.map fun v => v.category).sum ≤ 8) (hdg : decode cc g.pc = .ok (.invokevirtual index, 3)) (hf : cells + mc ≤ R.cells ∧ slots + ms ≤ R.slots) :
    vx_Run p l e R s m args below meth c H locs cells slots mc ms g rest (Qc (Value.ref b :: As).toArray) XC free := by
  obtain ⟨⟨hrc, hrs, hfr, hlo, hws, hcw⟩, hcode, hini, hy, hlen, hl, hin, hse⟩ := cw
  have hK : vx_Back l R p e below s args y 3 8 (PreOf R mc ms Pc) (PostOf Qc mc ms free) (vx_Post XC mc ms free) := vx_backW (hh := hh) (bytes := bytes) (maxL := maxL) (ret := ret) hM hp.1 hrc hrs hfr hlo hws hcw (fun a' U hW => word_at hW (Or.inl (by first | rfl | simp [Cond.onTables, Cond.keeps, Cond.steady])) hini)
  obtain ⟨hx, hb, hml, ho, -⟩ := S
  obtain ⟨-, ⟨cellB, hcB, hoB, hclB⟩, hPc⟩ := hp
  intro T hT X
  rcases vx_callVX X hx (C := C) (hh := hh) (bytes := bytes) (maxL := maxL) (ret := ret) ho hl hin hse hcode hy hK (by rw [hT]; exact hcB) hoB hclB hg (hsize.trans hml.symm) (argsL := As) (rest := rest) (fun sig h => hn.trans (hlen sig h)) hstack hW (by rw [hb]; exact hdg)
    (fun vm₁ hW₁ => ⟨hf.1, hf.2, hPc (T.setVm vm₁) hT hW₁⟩) with ⟨v, vm₁, ⟨U', l2, c2, s2⟩, hW₁, X', ⟨g', mk, t, L, e1, e2, hq, h1, hL, h2, h3⟩, st⟩ | ⟨q, vm₁, ⟨U', l2, c2, s2⟩, hW₁, X', ⟨g', mk, t, L, E, ce, e1, e2, hq, hce, hcv, hcl, h1, hL, h2, h3⟩, st⟩
  · dsimp only [Pt.U, Pt.locs, Pt.cells, Pt.slots] at X' e1 e2 h1 h2 h3 st
    subst h1; subst h2; subst h3
    exact Or.inl ⟨v, (T.setVm vm₁).calling g' mk (Value.ref b :: As).toArray, t, U', L, hT, X', hL, e1, e2, hq, st⟩
  · dsimp only [Pt.U, Pt.locs, Pt.cells, Pt.slots] at X' e1 e2 h1 h2 h3 st hcl
    subst h1; subst h2; subst h3
    exact Or.inr ⟨q, (T.setVm vm₁).calling g' mk (Value.ref b :: As).toArray, t, U', L, E, ce, hT, X', hL, e1, e2, hq, hce, hcv, vx_cls hW₁ hcl, st⟩
theorem vx_runSX {hh : List (Nat × Nat × Nat × Nat)} (S : CallFix p m c cc nL s args Ts own) (hM : vx_Met l y ws rm Pc Qc XC mc ms free) (cw : vx_CSW R s args own index y bytes maxL ret hh ws rm mc ms n) (hp : PreS s H Pc As)
    (hg : g.method = m) (hn : As.length = n) (hsize : g.locals.size = nL) (hstack : g.stack = As.reverse ++ rest) (hW : 2 * g.monitorRoom + (rest.map fun v => v.category).sum ≤ 8) (hdg : decode cc g.pc = .ok (.invokestatic index, 3)) (hf : cells + mc ≤ R.cells ∧ slots + ms ≤ R.slots) :
    vx_Run p l e R s m args below meth c H locs cells slots mc ms g rest (Qc As.toArray) XC free := by
  obtain ⟨⟨hrc, hrs, hfr, hlo, hws, hcw⟩, hcode, hini, hy, hlen, hl, hstt⟩ := cw
  have hK : vx_Back l R p e below s args y 3 8 (PreOf R mc ms Pc) (PostOf Qc mc ms free) (vx_Post XC mc ms free) := vx_backW (hh := hh) (bytes := bytes) (maxL := maxL) (ret := ret) hM hp.1 hrc hrs hfr hlo hws hcw (fun a' U hW => word_at hW (Or.inl (by first | rfl | simp [Cond.onTables, Cond.keeps, Cond.steady])) hini)
  obtain ⟨hx, hb, hml, ho, -⟩ := S
  intro T hT X
  rcases vx_callSX X hx (hh := hh) (bytes := bytes) (maxL := maxL) (ret := ret) ho hl hstt hini hcode hy hK hg (hsize.trans hml.symm) (argsL := As) (rest := rest) (fun sig h => hn.trans (hlen sig h)) hstack hW (by rw [hb]; exact hdg)
    (fun vm₁ hW₁ => ⟨hf.1, hf.2, hp.2 (T.setVm vm₁) hT hW₁⟩) with ⟨v, vm₁, ⟨U', l2, c2, s2⟩, hW₁, X', ⟨g', mk, t, L, e1, e2, hq, h1, hL, h2, h3⟩, st⟩ | ⟨q, vm₁, ⟨U', l2, c2, s2⟩, hW₁, X', ⟨g', mk, t, L, E, ce, e1, e2, hq, hce, hcv, hcl, h1, hL, h2, h3⟩, st⟩
  · dsimp only [Pt.U, Pt.locs, Pt.cells, Pt.slots] at X' e1 e2 h1 h2 h3 st
    subst h1; subst h2; subst h3
    exact Or.inl ⟨v, (T.setVm vm₁).calling g' mk As.toArray, t, U', L, hT, X', hL, e1, e2, hq, st⟩
  · dsimp only [Pt.U, Pt.locs, Pt.cells, Pt.slots] at X' e1 e2 h1 h2 h3 st hcl
    subst h1; subst h2; subst h3
    exact Or.inr ⟨q, (T.setVm vm₁).calling g' mk As.toArray, t, U', L, E, ce, hT, X', hL, e1, e2, hq, hce, hcv, vx_cls hW₁ hcl, st⟩
end
end VXH
theorem vx_ofWH {l : Launch} {y : MethodName} {ws ws' : List Cond} {rm : Room} {Pc : Array Value → State → Prop} {Qc : Array Value → State → Outcome → State → Prop} {XC : String → State → State → Prop} {mc ms : Nat} {free : Addr → Prop} {cc : ByteArray} {maxL : Nat} {ret : Option FieldType} {hh : List (Nat × Nat × Nat × Nat)}
    (hy : plainName y.cls = true) (hw : ws = Cond.codeWith y cc maxL ret hh :: ws')
    (body : ∀ p e s m args below meth c s₁, BodyLoose p l y (headSpec ws rm) cc maxL ret e s m args below meth c s₁ → c.maxLocals = maxL → Pc args s →
      W p l e (headSpec ws rm).room s m args below meth c s.heap [] 0 0 (vx_MQ below Qc XC args s mc ms free) (entryFrame m args maxL)) : vx_Met l y ws rm Pc Qc XC mc ms free := by
  refine MetFree.of_bodyS (code := cc) (maxLocals := maxL) (ret := ret) hy ?_ ?_
  · intro args s m h hn
    obtain ⟨m9, meth, c, hn9, h1, h2, h3, h4, -, h5, h6, -⟩ := Cond.codeWith_spec (atoms_spec (ws := ws) h _ (by rw [hw]; exact List.mem_cons_self))
    cases hn.symm.trans hn9
    exact ⟨meth, c, h1, h2, h3, h4, h5, h6⟩
  · intro p e s m args below meth c s₁ B hml hP _
    have hh0 : s₁.heap = s.heap := by rw [B.state]; rfl
    obtain ⟨t, a1, o, b1, b2, b3⟩ := body p e s m args below meth c s₁ B hml hP s₁ hh0 (Stand.of_body B)
    exact ⟨t, o, a1, b1, b2, b3⟩
/-! ===== END ===== -/
end
section
def RX0 : String := "VtableTown$Finder"
def TX0 : u_T := fun k => match k with
  | 0 => ("VtableTown$Finder", "told", "LVtableTown$Told;", true)
  | 1 => ("VtableTown$Finder", "of", "[I", true)
  | 2 => ("VtableTown$Finder", "found", "[I", true)
  | 3 => ("VtableTown$Finder", "slots", "[I", true)
  | _ => ("VtableTown$Finder", "lengths", "[I", true)
def tyX0 : Nat → FieldType := fun k => match k with
  | 0 => .object "VtableTown$Told"
  | 1 => .array .int
  | 2 => .array .int
  | 3 => .array .int
  | _ => .array .int
abbrev wsX00 : List Cond := u_ws RX0 TX0 5
theorem nmX0 : ∀ a, a < 5 → ∀ b, b < 5 → a ≠ b → (TX0 a).2.1 ≠ (TX0 b).2.1 := by decide +kernel
theorem tyX0_ok : ∀ k, k < 5 → parseFieldDescriptor (TX0 k).2.2.1 = some (tyX0 k) := by decide +kernel
abbrev cX0_init : ByteArray := prog_2_method_1_code
def yX0_init : MethodName := ⟨RX0, "<init>", "(LVtableTown$Told;)V"⟩
abbrev cX0_learn : ByteArray := prog_2_method_2_code
def yX0_learn : MethodName := ⟨RX0, "learn", "(I)V"⟩
abbrev cX0_allOf : ByteArray := prog_2_method_3_code
def yX0_allOf : MethodName := ⟨RX0, "allOf", "(I)I"⟩
abbrev cX0_lookInLine : ByteArray := prog_2_method_4_code
def yX0_lookInLine : MethodName := ⟨RX0, "lookInLine", "(II)I"⟩
abbrev cX0_havingMethod : ByteArray := prog_2_method_5_code
def yX0_havingMethod : MethodName := ⟨RX0, "havingMethod", "(II)I"⟩
abbrev cX0_lookInInterfaces : ByteArray := prog_2_method_6_code
def yX0_lookInInterfaces : MethodName := ⟨RX0, "lookInInterfaces", "(II)I"⟩
abbrev cX0_learnSlot : ByteArray := prog_2_method_7_code
def yX0_learnSlot : MethodName := ⟨RX0, "learnSlot", "(IIZ)V"⟩
def RX1 : String := "VtableTown$Machine"
def TX1 : u_T := fun k => match k with
  | 0 => ("VtableTown$Machine", "told", "LVtableTown$Told;", true)
  | 1 => ("VtableTown$Machine", "finder", "LVtableTown$Finder;", true)
  | 2 => ("VtableTown$Machine", "state", "LVtableTown$State;", true)
  | 3 => ("VtableTown$Machine", "kept", "LVtableTown$State;", true)
  | 4 => ("VtableTown$Machine", "callers", "[I", true)
  | 5 => ("VtableTown$Machine", "classes", "[I", true)
  | 6 => ("VtableTown$Machine", "values", "[I", true)
  | 7 => ("VtableTown$Machine", "loading", "I", false)
  | 8 => ("VtableTown$Machine", "frames", "I", false)
  | 9 => ("VtableTown$Machine", "steps", "I", false)
  | 10 => ("VtableTown$Machine", "cost", "I", false)
  | _ => ("VtableTown$Machine", "fault", "I", false)
def tyX1 : Nat → FieldType := fun k => match k with
  | 0 => .object "VtableTown$Told"
  | 1 => .object "VtableTown$Finder"
  | 2 => .object "VtableTown$State"
  | 3 => .object "VtableTown$State"
  | 4 => .array .int
  | 5 => .array .int
  | 6 => .array .int
  | 7 => .int
  | 8 => .int
  | 9 => .int
  | 10 => .int
  | _ => .int
abbrev wsX10 : List Cond := u_ws RX1 TX1 12
theorem nmX1 : ∀ a, a < 12 → ∀ b, b < 12 → a ≠ b → (TX1 a).2.1 ≠ (TX1 b).2.1 := by decide +kernel
theorem tyX1_ok : ∀ k, k < 12 → parseFieldDescriptor (TX1 k).2.2.1 = some (tyX1 k) := by decide +kernel
abbrev cX1_init : ByteArray := prog_3_method_1_code
def yX1_init : MethodName := ⟨RX1, "<init>", "(LVtableTown$Told;LVtableTown$Finder;LVtableTown$State;)V"⟩
abbrev cX1_keepState : ByteArray := prog_3_method_2_code
def yX1_keepState : MethodName := ⟨RX1, "keepState", "()V"⟩
abbrev cX1_putStateBack : ByteArray := prog_3_method_3_code
def yX1_putStateBack : MethodName := ⟨RX1, "putStateBack", "()V"⟩
abbrev cX1_loadFromOutside : ByteArray := prog_3_method_4_code
def yX1_loadFromOutside : MethodName := ⟨RX1, "loadFromOutside", "(I)I"⟩
abbrev cX1_runFromOutside : ByteArray := prog_3_method_5_code
def yX1_runFromOutside : MethodName := ⟨RX1, "runFromOutside", "(II)I"⟩
abbrev cX1_loadClass : ByteArray := prog_3_method_6_code
def yX1_loadClass : MethodName := ⟨RX1, "loadClass", "(I)I"⟩
abbrev cX1_loadWhatIsNamed : ByteArray := prog_3_method_7_code
def yX1_loadWhatIsNamed : MethodName := ⟨RX1, "loadWhatIsNamed", "(I)I"⟩
abbrev cX1_loadAs : ByteArray := prog_3_method_8_code
def yX1_loadAs : MethodName := ⟨RX1, "loadAs", "(IZ)I"⟩
abbrev cX1_becomeLoaded : ByteArray := prog_3_method_9_code
def yX1_becomeLoaded : MethodName := ⟨RX1, "becomeLoaded", "(I)V"⟩
abbrev cX1_openPlaces : ByteArray := prog_3_method_10_code
def yX1_openPlaces : MethodName := ⟨RX1, "openPlaces", "(I)V"⟩
abbrev cX1_turnBackLine : ByteArray := prog_3_method_11_code
def yX1_turnBackLine : MethodName := ⟨RX1, "turnBackLine", "(I)V"⟩
abbrev cX1_turnBackPlaces : ByteArray := prog_3_method_12_code
def yX1_turnBackPlaces : MethodName := ⟨RX1, "turnBackPlaces", "(II)V"⟩
abbrev cX1_turnBack : ByteArray := prog_3_method_13_code
def yX1_turnBack : MethodName := ⟨RX1, "turnBack", "(I)V"⟩
abbrev cX1_initialise : ByteArray := prog_3_method_14_code
def yX1_initialise : MethodName := ⟨RX1, "initialise", "(I)V"⟩
abbrev cX1_loadAndInitialise : ByteArray := prog_3_method_15_code
def yX1_loadAndInitialise : MethodName := ⟨RX1, "loadAndInitialise", "(I)V"⟩
abbrev cX1_makeAndCall : ByteArray := prog_3_method_16_code
def yX1_makeAndCall : MethodName := ⟨RX1, "makeAndCall", "(II)I"⟩
abbrev cX1_newObject : ByteArray := prog_3_method_17_code
def yX1_newObject : MethodName := ⟨RX1, "newObject", "(I)I"⟩
abbrev cX1_runMakers : ByteArray := prog_3_method_18_code
def yX1_runMakers : MethodName := ⟨RX1, "runMakers", "(II)V"⟩
abbrev cX1_callFound : ByteArray := prog_3_method_19_code
def yX1_callFound : MethodName := ⟨RX1, "callFound", "(IIII)I"⟩
abbrev cX1_runRow : ByteArray := prog_3_method_20_code
def yX1_runRow : MethodName := ⟨RX1, "runRow", "(IIII)I"⟩
abbrev cX1_held : ByteArray := prog_3_method_21_code
def yX1_held : MethodName := ⟨RX1, "held", "(I)I"⟩
abbrev cX1_runStep : ByteArray := prog_3_method_22_code
def yX1_runStep : MethodName := ⟨RX1, "runStep", "(IIII)I"⟩
abbrev cX1_valueAt : ByteArray := prog_3_method_23_code
def yX1_valueAt : MethodName := ⟨RX1, "valueAt", "(III)I"⟩
abbrev cX1_getField : ByteArray := prog_3_method_24_code
def yX1_getField : MethodName := ⟨RX1, "getField", "(III)I"⟩
abbrev cX1_putField : ByteArray := prog_3_method_25_code
def yX1_putField : MethodName := ⟨RX1, "putField", "(IIII)V"⟩
abbrev cX1_callOwn : ByteArray := prog_3_method_26_code
def yX1_callOwn : MethodName := ⟨RX1, "callOwn", "(III)I"⟩
abbrev cX1_callSuper : ByteArray := prog_3_method_27_code
def yX1_callSuper : MethodName := ⟨RX1, "callSuper", "(III)I"⟩
abbrev cX1_readStatic : ByteArray := prog_3_method_28_code
def yX1_readStatic : MethodName := ⟨RX1, "readStatic", "(I)I"⟩
abbrev cX1_keepStatic : ByteArray := prog_3_method_29_code
def yX1_keepStatic : MethodName := ⟨RX1, "keepStatic", "(II)V"⟩
abbrev cX1_isOf : ByteArray := prog_3_method_30_code
def yX1_isOf : MethodName := ⟨RX1, "isOf", "(II)I"⟩
def RX2 : String := "VtableTown$State"
def TX2 : u_T := fun k => match k with
  | 0 => ("VtableTown$State", "loaded", "I", false)
  | 1 => ("VtableTown$State", "runs", "I", false)
  | 2 => ("VtableTown$State", "costs", "J", false)
  | 3 => ("VtableTown$State", "lastCost", "I", false)
  | 4 => ("VtableTown$State", "lastSteps", "I", false)
  | 5 => ("VtableTown$State", "status", "[I", true)
  | 6 => ("VtableTown$State", "faults", "[I", true)
  | 7 => ("VtableTown$State", "wakes", "[I", true)
  | 8 => ("VtableTown$State", "statics", "[I", true)
  | 9 => ("VtableTown$State", "made", "[I", true)
  | 10 => ("VtableTown$State", "orders", "[I", true)
  | 11 => ("VtableTown$State", "direct", "[I", true)
  | 12 => ("VtableTown$State", "caches", "[I", true)
  | 13 => ("VtableTown$State", "hits", "[I", true)
  | 14 => ("VtableTown$State", "misses", "[I", true)
  | 15 => ("VtableTown$State", "gaveUp", "[I", true)
  | _ => ("VtableTown$State", "turned", "[I", true)
def tyX2 : Nat → FieldType := fun k => match k with
  | 0 => .int
  | 1 => .int
  | 2 => .long
  | 3 => .int
  | 4 => .int
  | 5 => .array .int
  | 6 => .array .int
  | 7 => .array .int
  | 8 => .array .int
  | 9 => .array .int
  | 10 => .array .int
  | 11 => .array .int
  | 12 => .array .int
  | 13 => .array .int
  | 14 => .array .int
  | 15 => .array .int
  | _ => .array .int
abbrev wsX20 : List Cond := u_ws RX2 TX2 17
theorem nmX2 : ∀ a, a < 17 → ∀ b, b < 17 → a ≠ b → (TX2 a).2.1 ≠ (TX2 b).2.1 := by decide +kernel
theorem tyX2_ok : ∀ k, k < 17 → parseFieldDescriptor (TX2 k).2.2.1 = some (tyX2 k) := by decide +kernel
abbrev cX2_init : ByteArray := prog_4_method_1_code
def yX2_init : MethodName := ⟨RX2, "<init>", "()V"⟩
abbrev cX2_copyFrom : ByteArray := prog_4_method_2_code
def yX2_copyFrom : MethodName := ⟨RX2, "copyFrom", "(LVtableTown$State;I)V"⟩
abbrev cX2_cached : ByteArray := prog_4_method_3_code
def yX2_cached : MethodName := ⟨RX2, "cached", "(II)I"⟩
abbrev cX2_cacheSize : ByteArray := prog_4_method_4_code
def yX2_cacheSize : MethodName := ⟨RX2, "cacheSize", "(I)I"⟩
abbrev cX2_askCache : ByteArray := prog_4_method_5_code
def yX2_askCache : MethodName := ⟨RX2, "askCache", "(II)I"⟩
def RX3 : String := "VtableTown$Told"
def TX3 : u_T := fun k => match k with
  | 0 => ("VtableTown$Told", "count", "I", false)
  | 1 => ("VtableTown$Told", "isFace", "[Z", true)
  | 2 => ("VtableTown$Told", "parents", "[I", true)
  | 3 => ("VtableTown$Told", "interfaces", "[I", true)
  | 4 => ("VtableTown$Told", "declared", "[I", true)
  | 5 => ("VtableTown$Told", "has", "[I", true)
  | 6 => ("VtableTown$Told", "sizes", "[I", true)
  | 7 => ("VtableTown$Told", "kinds", "[I", true)
  | 8 => ("VtableTown$Told", "as", "[I", true)
  | _ => ("VtableTown$Told", "bs", "[I", true)
def tyX3 : Nat → FieldType := fun k => match k with
  | 0 => .int
  | 1 => .array .boolean
  | 2 => .array .int
  | 3 => .array .int
  | 4 => .array .int
  | 5 => .array .int
  | 6 => .array .int
  | 7 => .array .int
  | 8 => .array .int
  | _ => .array .int
abbrev wsX30 : List Cond := u_ws RX3 TX3 10
theorem nmX3 : ∀ a, a < 10 → ∀ b, b < 10 → a ≠ b → (TX3 a).2.1 ≠ (TX3 b).2.1 := by decide +kernel
theorem tyX3_ok : ∀ k, k < 10 → parseFieldDescriptor (TX3 k).2.2.1 = some (tyX3 k) := by decide +kernel
abbrev cX3_init : ByteArray := prog_5_method_1_code
def yX3_init : MethodName := ⟨RX3, "<init>", "()V"⟩
abbrev cX3_addClass : ByteArray := prog_5_method_2_code
def yX3_addClass : MethodName := ⟨RX3, "addClass", "(ZII)I"⟩
abbrev cX3_replaceMethod : ByteArray := prog_5_method_3_code
def yX3_replaceMethod : MethodName := ⟨RX3, "replaceMethod", "(III)I"⟩
abbrev cX3_appendStep : ByteArray := prog_5_method_4_code
def yX3_appendStep : MethodName := ⟨RX3, "appendStep", "(IIII)I"⟩
abbrev cX3_declareField : ByteArray := prog_5_method_5_code
def yX3_declareField : MethodName := ⟨RX3, "declareField", "(II)Z"⟩
abbrev cX3_isCall : ByteArray := prog_5_method_6_code
def yX3_isCall : MethodName := ⟨RX3, "isCall", "(III)Z"⟩
abbrev cX3_declarerOf : ByteArray := prog_5_method_7_code
def yX3_declarerOf : MethodName := ⟨RX3, "declarerOf", "(II)I"⟩
abbrev cX3_ancestorOf : ByteArray := prog_5_method_8_code
def yX3_ancestorOf : MethodName := ⟨RX3, "ancestorOf", "(II)I"⟩
def RX4 : String := "VtableTown"
def TX4 : u_T := fun k => match k with
  | 0 => ("VtableTown", "told", "LVtableTown$Told;", true)
  | 1 => ("VtableTown", "finder", "LVtableTown$Finder;", true)
  | 2 => ("VtableTown", "state", "LVtableTown$State;", true)
  | _ => ("VtableTown", "machine", "LVtableTown$Machine;", true)
def tyX4 : Nat → FieldType := fun k => match k with
  | 0 => .object "VtableTown$Told"
  | 1 => .object "VtableTown$Finder"
  | 2 => .object "VtableTown$State"
  | _ => .object "VtableTown$Machine"
abbrev wsX40 : List Cond := u_ws RX4 TX4 4
theorem nmX4 : ∀ a, a < 4 → ∀ b, b < 4 → a ≠ b → (TX4 a).2.1 ≠ (TX4 b).2.1 := by decide +kernel
theorem tyX4_ok : ∀ k, k < 4 → parseFieldDescriptor (TX4 k).2.2.1 = some (tyX4 k) := by decide +kernel
abbrev cX4_init : ByteArray := prog_1_method_1_code
def yX4_init : MethodName := ⟨RX4, "<init>", "()V"⟩
abbrev cX4_plain : ByteArray := prog_1_method_2_code
def yX4_plain : MethodName := ⟨RX4, "plain", "(II)I"⟩
abbrev cX4_face : ByteArray := prog_1_method_3_code
def yX4_face : MethodName := ⟨RX4, "face", "(I)I"⟩
abbrev cX4_method : ByteArray := prog_1_method_4_code
def yX4_method : MethodName := ⟨RX4, "method", "(II)I"⟩
abbrev cX4_open : ByteArray := prog_1_method_5_code
def yX4_open : MethodName := ⟨RX4, "open", "(II)I"⟩
abbrev cX4_step : ByteArray := prog_1_method_6_code
def yX4_step : MethodName := ⟨RX4, "step", "(IIIII)I"⟩
abbrev cX4_first : ByteArray := prog_1_method_7_code
def yX4_first : MethodName := ⟨RX4, "first", "(IIII)I"⟩
abbrev cX4_field : ByteArray := prog_1_method_8_code
def yX4_field : MethodName := ⟨RX4, "field", "(II)Z"⟩
abbrev cX4_load : ByteArray := prog_1_method_9_code
def yX4_load : MethodName := ⟨RX4, "load", "(I)I"⟩
abbrev cX4_run : ByteArray := prog_1_method_10_code
def yX4_run : MethodName := ⟨RX4, "run", "(II)I"⟩
abbrev cX4_ofClass : ByteArray := prog_1_method_11_code
def yX4_ofClass : MethodName := ⟨RX4, "ofClass", "(II)I"⟩
abbrev cX4_finds : ByteArray := prog_1_method_12_code
def yX4_finds : MethodName := ⟨RX4, "finds", "(II)I"⟩
abbrev cX4_slot : ByteArray := prog_1_method_13_code
def yX4_slot : MethodName := ⟨RX4, "slot", "(II)I"⟩
abbrev cX4_ofPlace : ByteArray := prog_1_method_14_code
def yX4_ofPlace : MethodName := ⟨RX4, "ofPlace", "(IIII)I"⟩
abbrev cX4_many : ByteArray := prog_1_method_15_code
def yX4_many : MethodName := ⟨RX4, "many", "(I)I"⟩
abbrev cX4_meanCost : ByteArray := prog_1_method_16_code
def yX4_meanCost : MethodName := ⟨RX4, "meanCost", "()D"⟩
abbrev cX4_wouldRun : ByteArray := prog_1_method_17_code
def yX4_wouldRun : MethodName := ⟨RX4, "wouldRun", "(II)I"⟩
abbrev cX4_wouldCost : ByteArray := prog_1_method_18_code
def yX4_wouldCost : MethodName := ⟨RX4, "wouldCost", "(II)I"⟩
abbrev cX4_digest : ByteArray := prog_1_method_22_code
def yX4_digest : MethodName := ⟨RX4, "digest", "()J"⟩
abbrev cX4_digestOfClass : ByteArray := prog_1_method_23_code
def yX4_digestOfClass : MethodName := ⟨RX4, "digestOfClass", "(JI)J"⟩
abbrev cX4_digestOfPlaces : ByteArray := prog_1_method_24_code
def yX4_digestOfPlaces : MethodName := ⟨RX4, "digestOfPlaces", "(JI)J"⟩
abbrev cX4_checkInterfaces : ByteArray := prog_1_method_25_code
def yX4_checkInterfaces : MethodName := ⟨RX4, "checkInterfaces", "(I)V"⟩
abbrev cX4_checkThereIsRoom : ByteArray := prog_1_method_26_code
def yX4_checkThereIsRoom : MethodName := ⟨RX4, "checkThereIsRoom", "()V"⟩
abbrev cX4_checkTold : ByteArray := prog_1_method_27_code
def yX4_checkTold : MethodName := ⟨RX4, "checkTold", "(I)V"⟩
abbrev cX4_checkToldAndName : ByteArray := prog_1_method_28_code
def yX4_checkToldAndName : MethodName := ⟨RX4, "checkToldAndName", "(II)V"⟩
abbrev cX4_checkFresh : ByteArray := prog_1_method_29_code
def yX4_checkFresh : MethodName := ⟨RX4, "checkFresh", "(I)V"⟩
abbrev cX4_checkRowHasRoom : ByteArray := prog_1_method_30_code
def yX4_checkRowHasRoom : MethodName := ⟨RX4, "checkRowHasRoom", "(I)V"⟩
abbrev cX4_checkNumber : ByteArray := prog_1_method_31_code
def yX4_checkNumber : MethodName := ⟨RX4, "checkNumber", "(I)V"⟩
abbrev cX4_checkNumberAndName : ByteArray := prog_1_method_32_code
def yX4_checkNumberAndName : MethodName := ⟨RX4, "checkNumberAndName", "(II)V"⟩
abbrev cX4_checkFinder : ByteArray := prog_1_method_33_code
def yX4_checkFinder : MethodName := ⟨RX4, "checkFinder", "(II)V"⟩
abbrev cX4_isTold : ByteArray := prog_1_method_34_code
def yX4_isTold : MethodName := ⟨RX4, "isTold", "(I)Z"⟩
abbrev cX4_isPlainAndLoaded : ByteArray := prog_1_method_35_code
def yX4_isPlainAndLoaded : MethodName := ⟨RX4, "isPlainAndLoaded", "(I)Z"⟩
abbrev cX4_isPlace : ByteArray := prog_1_method_36_code
def yX4_isPlace : MethodName := ⟨RX4, "isPlace", "(III)Z"⟩
abbrev cX4_isNumber : ByteArray := prog_1_method_37_code
def yX4_isNumber : MethodName := ⟨RX4, "isNumber", "(I)Z"⟩
abbrev cX4_isCalledName : ByteArray := prog_1_method_38_code
def yX4_isCalledName : MethodName := ⟨RX4, "isCalledName", "(I)Z"⟩
abbrev cX4_isField : ByteArray := prog_1_method_39_code
def yX4_isField : MethodName := ⟨RX4, "isField", "(I)Z"⟩
abbrev cX4_isKindOfInitialiser : ByteArray := prog_1_method_40_code
def yX4_isKindOfInitialiser : MethodName := ⟨RX4, "isKindOfInitialiser", "(I)Z"⟩
abbrev cX4_isStep : ByteArray := prog_1_method_41_code
def yX4_isStep : MethodName := ⟨RX4, "isStep", "(III)Z"⟩
abbrev cX4_countClasses : ByteArray := prog_1_method_42_code
def yX4_countClasses : MethodName := ⟨RX4, "countClasses", "([II)I"⟩
abbrev cX4_countPlaces : ByteArray := prog_1_method_43_code
def yX4_countPlaces : MethodName := ⟨RX4, "countPlaces", "()I"⟩
abbrev cX4_sumOfPlaces : ByteArray := prog_1_method_44_code
def yX4_sumOfPlaces : MethodName := ⟨RX4, "sumOfPlaces", "([I)I"⟩
abbrev cX4_rowOf : ByteArray := prog_1_method_45_code
def yX4_rowOf : MethodName := ⟨RX4, "rowOf", "(II)I"⟩
abbrev cX4_isIn : ByteArray := prog_1_method_46_code
def yX4_isIn : MethodName := ⟨RX4, "isIn", "(II)Z"⟩
def RX5 : String := "VtableTownLaw$Town"
def TX5 : u_T := fun k => match k with
  | 0 => ("VtableTownLaw$Town", "m", "LVtableTown;", true)
  | 1 => ("VtableTownLaw$Town", "s", "[I", true)
  | 2 => ("VtableTownLaw$Town", "draws", "I", false)
  | 3 => ("VtableTownLaw$Town", "n", "I", false)
  | 4 => ("VtableTownLaw$Town", "isFace", "[Z", true)
  | 5 => ("VtableTownLaw$Town", "parent", "[I", true)
  | 6 => ("VtableTownLaw$Town", "named", "[I", true)
  | 7 => ("VtableTownLaw$Town", "has", "[[Z", true)
  | 8 => ("VtableTownLaw$Town", "kinds", "[[I", true)
  | 9 => ("VtableTownLaw$Town", "rows", "[[[[I", true)
  | 10 => ("VtableTownLaw$Town", "state", "[I", true)
  | 11 => ("VtableTownLaw$Town", "fault", "[I", true)
  | 12 => ("VtableTownLaw$Town", "woken", "[I", true)
  | 13 => ("VtableTownLaw$Town", "statics", "[I", true)
  | 14 => ("VtableTownLaw$Town", "made", "[I", true)
  | 15 => ("VtableTownLaw$Town", "order", "[I", true)
  | 16 => ("VtableTownLaw$Town", "isOn", "[Z", true)
  | 17 => ("VtableTownLaw$Town", "loaded", "I", false)
  | 18 => ("VtableTownLaw$Town", "caches", "[[[[I", true)
  | 19 => ("VtableTownLaw$Town", "told", "[[[[I", true)
  | 20 => ("VtableTownLaw$Town", "runs", "I", false)
  | 21 => ("VtableTownLaw$Town", "allCosts", "I", false)
  | 22 => ("VtableTownLaw$Town", "cost", "I", false)
  | 23 => ("VtableTownLaw$Town", "steps", "I", false)
  | 24 => ("VtableTownLaw$Town", "failed", "I", false)
  | _ => ("VtableTownLaw$Town", "calls", "[I", false)
def tyX5 : Nat → FieldType := fun k => match k with
  | 0 => .object "VtableTown"
  | 1 => .array .int
  | 2 => .int
  | 3 => .int
  | 4 => .array .boolean
  | 5 => .array .int
  | 6 => .array .int
  | 7 => .array (.array .boolean)
  | 8 => .array (.array .int)
  | 9 => .array (.array (.array (.array .int)))
  | 10 => .array .int
  | 11 => .array .int
  | 12 => .array .int
  | 13 => .array .int
  | 14 => .array .int
  | 15 => .array .int
  | 16 => .array .boolean
  | 17 => .int
  | 18 => .array (.array (.array (.array .int)))
  | 19 => .array (.array (.array (.array .int)))
  | 20 => .int
  | 21 => .int
  | 22 => .int
  | 23 => .int
  | 24 => .int
  | _ => .array .int
abbrev wsX50 : List Cond := u_ws RX5 TX5 26
theorem nmX5 : ∀ a, a < 26 → ∀ b, b < 26 → a ≠ b → (TX5 a).2.1 ≠ (TX5 b).2.1 := by decide +kernel
theorem tyX5_ok : ∀ k, k < 26 → parseFieldDescriptor (TX5 k).2.2.1 = some (tyX5 k) := by decide +kernel
abbrev cX5_init : ByteArray := prog_7_method_1_code
def yX5_init : MethodName := ⟨RX5, "<init>", "([II)V"⟩
abbrev cX5_draw : ByteArray := prog_7_method_2_code
def yX5_draw : MethodName := ⟨RX5, "draw", "(I)I"⟩
abbrev cX5_with : ByteArray := prog_7_method_3_code
def yX5_with : MethodName := ⟨RX5, "with", "([[I[I)[[I"⟩
abbrev cX5_plus : ByteArray := prog_7_method_4_code
def yX5_plus : MethodName := ⟨RX5, "plus", "([II)[I"⟩
abbrev cX5_tell : ByteArray := prog_7_method_5_code
def yX5_tell : MethodName := ⟨RX5, "tell", "()Z"⟩
abbrev cX5_tellMethod : ByteArray := prog_7_method_6_code
def yX5_tellMethod : MethodName := ⟨RX5, "tellMethod", "(II)Z"⟩
abbrev cX5_tellStep : ByteArray := prog_7_method_7_code
def yX5_tellStep : MethodName := ⟨RX5, "tellStep", "(II)Z"⟩
abbrev cX5_of : ByteArray := prog_7_method_8_code
def yX5_of : MethodName := ⟨RX5, "of", "(I)[Z"⟩
abbrev cX5_find : ByteArray := prog_7_method_9_code
def yX5_find : MethodName := ⟨RX5, "find", "(II)I"⟩
abbrev cX5_isBelowAnother : ByteArray := prog_7_method_10_code
def yX5_isBelowAnother : MethodName := ⟨RX5, "isBelowAnother", "([ZII)Z"⟩
abbrev cX5_slot : ByteArray := prog_7_method_12_code
def yX5_slot : MethodName := ⟨RX5, "slot", "([II)I"⟩
abbrev cX5_isDirect : ByteArray := prog_7_method_13_code
def yX5_isDirect : MethodName := ⟨RX5, "isDirect", "(II)Z"⟩
abbrev cX5_isPlace : ByteArray := prog_7_method_14_code
def yX5_isPlace : MethodName := ⟨RX5, "isPlace", "(III)Z"⟩
abbrev cX5_direct : ByteArray := prog_7_method_15_code
def yX5_direct : MethodName := ⟨RX5, "direct", "()[Z"⟩
abbrev cX5_loadNow : ByteArray := prog_7_method_16_code
def yX5_loadNow : MethodName := ⟨RX5, "loadNow", "(I)I"⟩
abbrev cX5_go : ByteArray := prog_7_method_18_code
def yX5_go : MethodName := ⟨RX5, "go", "(II[[II)I"⟩
abbrev cX5_does : ByteArray := prog_7_method_19_code
def yX5_does : MethodName := ⟨RX5, "does", "(III[[II)I"⟩
abbrev cX5_fails : ByteArray := prog_7_method_20_code
def yX5_fails : MethodName := ⟨RX5, "fails", "(I)I"⟩
abbrev cX5_calls : ByteArray := prog_7_method_21_code
def yX5_calls : MethodName := ⟨RX5, "calls", "(II[[I)I"⟩
abbrev cX5_wakes : ByteArray := prog_7_method_22_code
def yX5_wakes : MethodName := ⟨RX5, "wakes", "(I)V"⟩
abbrev cX5_makes : ByteArray := prog_7_method_23_code
def yX5_makes : MethodName := ⟨RX5, "makes", "(II)I"⟩
abbrev cX5_raise : ByteArray := prog_7_method_24_code
def yX5_raise : MethodName := ⟨RX5, "raise", "(I[[I)V"⟩
abbrev cX5_runNow : ByteArray := prog_7_method_25_code
def yX5_runNow : MethodName := ⟨RX5, "runNow", "(II)I"⟩
abbrev cX5_found : ByteArray := prog_7_method_27_code
def yX5_found : MethodName := ⟨RX5, "found", "(I)Z"⟩
def RX6 : String := "VtableTownModel"
def TX6 : u_T := fun k => match k with
  | _ => ("", "", "", false)
def tyX6 : Nat → FieldType := fun k => match k with
  | _ => .int
abbrev wsX60 : List Cond := u_ws RX6 TX6 0
theorem nmX6 : ∀ a, a < 0 → ∀ b, b < 0 → a ≠ b → (TX6 a).2.1 ≠ (TX6 b).2.1 := by decide +kernel
theorem tyX6_ok : ∀ k, k < 0 → parseFieldDescriptor (TX6 k).2.2.1 = some (tyX6 k) := by decide +kernel
def RL : String := "VtableTownLaw"
abbrev cL_below : ByteArray := method_2_code
def yL_below : MethodName := ⟨RL, "below", "(II)I"⟩
abbrev cL_cell : ByteArray := method_3_code
def yL_cell : MethodName := ⟨RL, "cell", "([II)I"⟩
abbrev cL_law : ByteArray := code
def yL_law : MethodName := ⟨RL, "law", "([I)Z"⟩
abbrev vwCl : List vw_C := [(RX0, TX0, 5), (RX1, TX1, 12), (RX2, TX2, 17), (RX3, TX3, 10), (RX4, TX4, 4), (RX5, TX5, 26)]
end
section
/-! the words that this proof uses, one list; each is a row of the tables -/
def pw_0 : List Cond := [.classLink RL 9 RX5, .instantiable RX5 26, .initialized RX5, .fieldLink RL 14 "VtableTownLaw$Town" "m" "LVtableTown;", .arrayClass .boolean, .classLink RL 39 "[I", .arrayClass .int, .methodLink RL 11 yX5_init, .instanceMethod yX5_init, .code yX5_init cX5_init 3 none, .methodLink RX5 1 objectInit, .instanceMethod objectInit, .code objectInit ⟨#[0xb1]⟩ 1 none, .classLink RX5 7 RX4, .instantiable RX4 4, .initialized RX4, .fieldLink RX5 10 "VtableTownLaw$Town" "m" "LVtableTown;", .fieldLink RX5 16 "VtableTownLaw$Town" "isFace" "[Z", .fieldLink RX5 20 "VtableTownLaw$Town" "parent" "[I", .fieldLink RX5 24 "VtableTownLaw$Town" "named" "[I", .classLink RX5 27 "[[Z", .fieldLink RX5 29 "VtableTownLaw$Town" "has" "[[Z", .classLink RX5 32 "[[I", .fieldLink RX5 34 "VtableTownLaw$Town" "kinds" "[[I"]
set_option maxRecDepth 100000 in
theorem pw_in_0 : ∀ w ∈ pw_0, w ∈ lw_tbl := fun w h => (goodIn_r (big := lw_tbl) pw_0 [456, 457, 56, 701, 521, 985, 522, 458, 459, 460, 461, 106, 107, 462, 341, 57, 700, 705, 706, 707, 693, 708, 695, 709] (by decide +kernel) (by decide +kernel) w h).1
def pw_1 : List Cond := [.fieldLink RX5 39 "VtableTownLaw$Town" "rows" "[[[[I", .fieldLink RX5 42 "VtableTownLaw$Town" "state" "[I", .fieldLink RX5 45 "VtableTownLaw$Town" "fault" "[I", .fieldLink RX5 48 "VtableTownLaw$Town" "woken" "[I", .fieldLink RX5 51 "VtableTownLaw$Town" "statics" "[I", .fieldLink RX5 54 "VtableTownLaw$Town" "made" "[I", .fieldLink RX5 57 "VtableTownLaw$Town" "order" "[I", .fieldLink RX5 60 "VtableTownLaw$Town" "isOn" "[Z", .fieldLink RX5 63 "VtableTownLaw$Town" "caches" "[[[[I", .fieldLink RX5 66 "VtableTownLaw$Town" "told" "[[[[I", .fieldLink RX5 69 "VtableTownLaw$Town" "calls" "[I", .fieldLink RX5 72 "VtableTownLaw$Town" "s" "[I", .fieldLink RX5 75 "VtableTownLaw$Town" "draws" "I", .methodLink RX5 9 yX4_init, .instanceMethod yX4_init, .code yX4_init cX4_init 1 none, .methodLink RX4 3 objectInit, .classLink RX4 9 RX3, .instantiable RX3 10, .initialized RX3, .fieldLink RX4 12 "VtableTown" "told" "LVtableTown$Told;", .classLink RX4 16 RX0, .instantiable RX0 5, .initialized RX0]
set_option maxRecDepth 100000 in
theorem pw_in_1 : ∀ w ∈ pw_1, w ∈ lw_tbl := fun w h => (goodIn_r (big := lw_tbl) pw_1 [710, 711, 712, 713, 714, 715, 716, 717, 719, 720, 726, 702, 703, 463, 464, 465, 466, 467, 468, 58, 680, 523, 177, 59] (by decide +kernel) (by decide +kernel) w h).1
def pw_2 : List Cond := [.fieldLink RX4 21 "VtableTown" "finder" "LVtableTown$Finder;", .classLink RX4 25 RX2, .instantiable RX2 17, .initialized RX2, .fieldLink RX4 28 "VtableTown" "state" "LVtableTown$State;", .classLink RX4 32 RX1, .instantiable RX1 12, .initialized RX1, .fieldLink RX4 37 "VtableTown" "machine" "LVtableTown$Machine;", .instanceMethod yX3_init, .code yX3_init cX3_init 1 none, .methodLink RX3 3 objectInit, .fieldLink RX3 9 "VtableTown$Told" "isFace" "[Z", .fieldLink RX3 15 "VtableTown$Told" "parents" "[I", .fieldLink RX3 19 "VtableTown$Told" "interfaces" "[I", .fieldLink RX3 22 "VtableTown$Told" "declared" "[I", .fieldLink RX3 25 "VtableTown$Told" "has" "[I", .fieldLink RX3 28 "VtableTown$Told" "sizes" "[I", .fieldLink RX3 31 "VtableTown$Told" "kinds" "[I", .fieldLink RX3 34 "VtableTown$Told" "as" "[I", .fieldLink RX3 37 "VtableTown$Told" "bs" "[I", .methodLink RX4 18 yX0_init, .instanceMethod yX0_init, .code yX0_init cX0_init 2 none]
set_option maxRecDepth 100000 in
theorem pw_in_2 : ∀ w ∈ pw_2, w ∈ lw_tbl := fun w h => (goodIn_r (big := lw_tbl) pw_2 [681, 550, 551, 60, 682, 636, 157, 61, 683, 470, 471, 472, 476, 480, 483, 486, 487, 491, 494, 496, 498, 524, 525, 526] (by decide +kernel) (by decide +kernel) w h).1
def pw_3 : List Cond := [.methodLink RX0 3 objectInit, .fieldLink RX0 9 "VtableTown$Finder" "of" "[I", .fieldLink RX0 15 "VtableTown$Finder" "found" "[I", .fieldLink RX0 18 "VtableTown$Finder" "slots" "[I", .fieldLink RX0 21 "VtableTown$Finder" "lengths" "[I", .fieldLink RX0 24 "VtableTown$Finder" "told" "LVtableTown$Told;", .instanceMethod yX2_init, .code yX2_init cX2_init 1 none, .methodLink RX2 3 objectInit, .fieldLink RX2 9 "VtableTown$State" "status" "[I", .fieldLink RX2 15 "VtableTown$State" "faults" "[I", .fieldLink RX2 18 "VtableTown$State" "wakes" "[I", .fieldLink RX2 21 "VtableTown$State" "statics" "[I", .fieldLink RX2 24 "VtableTown$State" "made" "[I", .fieldLink RX2 27 "VtableTown$State" "orders" "[I", .fieldLink RX2 30 "VtableTown$State" "direct" "[I", .fieldLink RX2 33 "VtableTown$State" "caches" "[I", .fieldLink RX2 36 "VtableTown$State" "hits" "[I", .fieldLink RX2 39 "VtableTown$State" "misses" "[I", .fieldLink RX2 42 "VtableTown$State" "gaveUp" "[I", .fieldLink RX2 45 "VtableTown$State" "turned" "[I", .methodLink RX4 34 yX1_init, .instanceMethod yX1_init, .code yX1_init cX1_init 4 none]
set_option maxRecDepth 100000 in
theorem pw_in_3 : ∀ w ∈ pw_3, w ∈ lw_tbl := fun w h => (goodIn_r (big := lw_tbl) pw_3 [527, 529, 532, 535, 537, 528, 553, 554, 555, 570, 573, 576, 579, 582, 585, 588, 591, 592, 594, 596, 598, 637, 638, 639] (by decide +kernel) (by decide +kernel) w h).1
def pw_4 : List Cond := [.methodLink RX1 3 objectInit, .classLink RX1 9 RX2, .fieldLink RX1 12 "VtableTown$Machine" "kept" "LVtableTown$State;", .fieldLink RX1 18 "VtableTown$Machine" "callers" "[I", .fieldLink RX1 22 "VtableTown$Machine" "classes" "[I", .fieldLink RX1 25 "VtableTown$Machine" "values" "[I", .fieldLink RX1 28 "VtableTown$Machine" "told" "LVtableTown$Told;", .fieldLink RX1 32 "VtableTown$Machine" "finder" "LVtableTown$Finder;", .fieldLink RX1 36 "VtableTown$Machine" "state" "LVtableTown$State;", .methodLink RL 18 yX5_found, .instanceMethod yX5_found, .selects RX5 yX5_found yX5_found, .code yX5_found cX5_found 3 (some .boolean), .methodLink RX5 233 yX5_tell, .instanceMethod yX5_tell, .selects RX5 yX5_tell yX5_tell, .code yX5_tell cX5_tell 4 (some .boolean), .fieldLink RX5 96 "VtableTownLaw$Town" "n" "I", .methodLink RX5 103 Lib.Math.max.name, .static Lib.Math.max.name, .initialized "java/lang/Math", .methodLink RX5 99 yX5_draw, .instanceMethod yX5_draw, .selects RX5 yX5_draw yX5_draw]
set_option maxRecDepth 100000 in
theorem pw_in_4 : ∀ w ∈ pw_4, w ∈ lw_tbl := fun w h => (goodIn_r (big := lw_tbl) pw_4 [640, 641, 646, 647, 648, 649, 643, 644, 645, 980, 981, 982, 983, 984, 793, 794, 795, 704, 797, 320, 62, 796, 781, 782] (by decide +kernel) (by decide +kernel) w h).1
def pw_5 : List Cond := [.code yX5_draw cX5_draw 3 (some .int), .static yL_cell, .initialized RL, .code yL_cell cL_cell 2 (some .int), .constant RL 8 (790386105), .static yL_below, .code yL_below cL_below 2 (some .int), .constant RL 7 (2147483647), .methodLink RX5 108 yX4_face, .instanceMethod yX4_face, .selects RX4 yX4_face yX4_face, .code yX4_face cX4_face 2 (some .int), .methodLink RX4 52 yX4_checkInterfaces, .static yX4_checkInterfaces, .code yX4_checkInterfaces cX4_checkInterfaces 1 none, .classLink RX4 45 "java/lang/IllegalArgumentException", .initialized "java/lang/IllegalArgumentException", .methodLink RX4 56 yX4_checkThereIsRoom, .instanceMethod yX4_checkThereIsRoom, .selects RX4 yX4_checkThereIsRoom yX4_checkThereIsRoom, .code yX4_checkThereIsRoom cX4_checkThereIsRoom 1 none, .classLink RX4 96 "java/lang/IllegalStateException", .initialized "java/lang/IllegalStateException", .fieldLink RX4 41 "VtableTown$Told" "count" "I"]
set_option maxRecDepth 100000 in
theorem pw_in_5 : ∀ w ∈ pw_5, w ∈ lw_tbl := fun w h => (goodIn_r (big := lw_tbl) pw_5 [783, 785, 55, 786, 787, 789, 790, 791, 798, 799, 800, 801, 802, 803, 804, 348, 66, 806, 808, 40, 809, 810, 67, 475] (by decide +kernel) (by decide +kernel) w h).1
def pw_6 : List Cond := [.methodLink RX4 59 yX3_addClass, .instanceMethod yX3_addClass, .selects RX3 yX3_addClass yX3_addClass, .code yX3_addClass cX3_addClass 5 (some .int), .fieldLink RX3 40 "VtableTown$Told" "count" "I", .methodLink RX5 111 yX4_plain, .instanceMethod yX4_plain, .selects RX4 yX4_plain yX4_plain, .code yX4_plain cX4_plain 3 (some .int), .methodLink RX5 114 yX5_tellMethod, .instanceMethod yX5_tellMethod, .selects RX5 yX5_tellMethod yX5_tellMethod, .code yX5_tellMethod cX5_tellMethod 6 (some .boolean), .methodLink RX5 124 yX4_open, .instanceMethod yX4_open, .selects RX4 yX4_open yX4_open, .code yX4_open cX4_open 3 (some .int), .methodLink RX4 63 yX4_checkToldAndName, .instanceMethod yX4_checkToldAndName, .selects RX4 yX4_checkToldAndName yX4_checkToldAndName, .code yX4_checkToldAndName cX4_checkToldAndName 3 none, .classLink RX4 120 "java/lang/IndexOutOfBoundsException", .initialized "java/lang/IndexOutOfBoundsException", .methodLink RX4 108 yX4_checkTold]
set_option maxRecDepth 100000 in
theorem pw_in_6 : ∀ w ∈ pw_6, w ∈ lw_tbl := fun w h => (goodIn_r (big := lw_tbl) pw_6 [826, 827, 828, 829, 473, 830, 831, 832, 833, 835, 837, 41, 838, 839, 840, 841, 842, 843, 845, 42, 846, 80, 68, 338] (by decide +kernel) (by decide +kernel) w h).1
def pw_7 : List Cond := [.instanceMethod yX4_checkTold, .selects RX4 yX4_checkTold yX4_checkTold, .code yX4_checkTold cX4_checkTold 2 none, .methodLink RX4 276 yX4_isTold, .instanceMethod yX4_isTold, .selects RX4 yX4_isTold yX4_isTold, .code yX4_isTold cX4_isTold 2 (some .boolean), .methodLink RX4 73 yX4_checkFresh, .instanceMethod yX4_checkFresh, .selects RX4 yX4_checkFresh yX4_checkFresh, .code yX4_checkFresh cX4_checkFresh 2 none, .fieldLink RX4 144 "VtableTown$State" "status" "[I", .methodLink RX4 76 yX3_replaceMethod, .instanceMethod yX3_replaceMethod, .selects RX3 yX3_replaceMethod yX3_replaceMethod, .code yX3_replaceMethod cX3_replaceMethod 6 (some .int), .static yX4_rowOf, .code yX4_rowOf cX4_rowOf 2 (some .int), .methodLink RX5 127 yX4_method, .instanceMethod yX4_method, .selects RX4 yX4_method yX4_method, .code yX4_method cX4_method 3 (some .int), .fieldLink RX4 67 "VtableTown$Told" "isFace" "[Z", .methodLink RX5 121 yX5_tellStep]
set_option maxRecDepth 100000 in
theorem pw_in_7 : ∀ w ∈ pw_7, w ∈ lw_tbl := fun w h => (goodIn_r (big := lw_tbl) pw_7 [340, 30, 342, 343, 345, 31, 346, 849, 851, 43, 852, 572, 854, 855, 856, 857, 185, 186, 858, 859, 860, 861, 478, 863] (by decide +kernel) (by decide +kernel) w h).1
def pw_8 : List Cond := [.instanceMethod yX5_tellStep, .selects RX5 yX5_tellStep yX5_tellStep, .code yX5_tellStep cX5_tellStep 8 (some .boolean), .methodLink RX5 130 Lib.Math.min.name, .static Lib.Math.min.name, .methodLink RX5 133 yX5_with, .static yX5_with, .code yX5_with cX5_with 3 (some (.array (.array .int))), .classLink RX5 89 "[I", .methodLink RX5 90 arraycopyName, .native arraycopyName, .static arraycopyName, .initialized "java/lang/System", .methodLink RX5 137 yX4_first, .instanceMethod yX4_first, .selects RX4 yX4_first yX4_first, .code yX4_first cX4_first 6 (some .int), .methodLink RX4 111 yX4_isKindOfInitialiser, .static yX4_isKindOfInitialiser, .code yX4_isKindOfInitialiser cX4_isKindOfInitialiser 1 (some .boolean), .methodLink RX4 82 yX4_isStep, .static yX4_isStep, .code yX4_isStep cX4_isStep 3 (some .boolean), .methodLink RX4 117 yX4_isField]
set_option maxRecDepth 100000 in
theorem pw_in_8 : ∀ w ∈ pw_8, w ∈ lw_tbl := fun w h => (goodIn_r (big := lw_tbl) pw_8 [865, 44, 866, 867, 317, 868, 869, 870, 871, 872, 413, 412, 69, 873, 874, 875, 876, 877, 878, 879, 880, 881, 882, 883] (by decide +kernel) (by decide +kernel) w h).1
def pw_9 : List Cond := [.static yX4_isField, .code yX4_isField cX4_isField 1 (some .boolean), .methodLink RX4 295 yX4_isCalledName, .static yX4_isCalledName, .code yX4_isCalledName cX4_isCalledName 1 (some .boolean), .methodLink RX4 290 yX4_isNumber, .static yX4_isNumber, .code yX4_isNumber cX4_isNumber 1 (some .boolean), .methodLink RX4 88 yX4_rowOf, .methodLink RX4 101 yX4_checkRowHasRoom, .instanceMethod yX4_checkRowHasRoom, .selects RX4 yX4_checkRowHasRoom yX4_checkRowHasRoom, .code yX4_checkRowHasRoom cX4_checkRowHasRoom 2 none, .fieldLink RX4 285 "VtableTown$Told" "sizes" "[I", .methodLink RX4 104 yX3_appendStep, .instanceMethod yX3_appendStep, .selects RX3 yX3_appendStep yX3_appendStep, .code yX3_appendStep cX3_appendStep 6 (some .int), .methodLink RX5 141 yX4_step, .instanceMethod yX4_step, .selects RX4 yX4_step yX4_step, .code yX4_step cX4_step 7 (some .int), .fieldLink RX4 92 "VtableTown$Told" "has" "[I", .methodLink RX5 118 yX4_field]
set_option maxRecDepth 100000 in
theorem pw_in_9 : ∀ w ∈ pw_9, w ∈ lw_tbl := fun w h => (goodIn_r (big := lw_tbl) pw_9 [884, 885, 231, 232, 233, 77, 78, 79, 374, 887, 889, 45, 890, 493, 892, 893, 894, 895, 896, 897, 898, 899, 489, 902] (by decide +kernel) (by decide +kernel) w h).1
def pw_10 : List Cond := [.instanceMethod yX4_field, .selects RX4 yX4_field yX4_field, .code yX4_field cX4_field 3 (some .boolean), .methodLink RX4 127 yX3_declareField, .instanceMethod yX3_declareField, .selects RX3 yX3_declareField yX3_declareField, .code yX3_declareField cX3_declareField 4 (some .boolean), .static yX4_isIn, .code yX4_isIn cX4_isIn 2 (some .boolean), .methodLink RL 22 yX5_draw, .methodLink RL 26 yX5_tell, .methodLink RL 30 yX4_digest, .instanceMethod yX4_digest, .selects RX4 yX4_digest yX4_digest, .code yX4_digest cX4_digest 4 (some .long), .constantLong RX4 243 (7601), .constantLong RX4 245 (31), .fieldLink RX4 222 "VtableTown$State" "lastCost" "I", .methodLink RX4 247 yX4_many, .instanceMethod yX4_many, .selects RX4 yX4_many yX4_many, .code yX4_many cX4_many 2 (some .int), .fieldLink RX4 150 "VtableTown$State" "wakes" "[I", .fieldLink RX4 184 "VtableTown$State" "direct" "[I"]
set_option maxRecDepth 100000 in
theorem pw_in_10 : ∀ w ∈ pw_10, w ∈ lw_tbl := fun w h => (goodIn_r (big := lw_tbl) pw_10 [903, 904, 905, 908, 909, 910, 911, 160, 161, 780, 792, 422, 423, 424, 425, 426, 427, 566, 428, 379, 380, 381, 577, 590] (by decide +kernel) (by decide +kernel) w h).1
def pw_11 : List Cond := [.fieldLink RX4 196 "VtableTown$State" "gaveUp" "[I", .fieldLink RX4 199 "VtableTown$State" "turned" "[I", .fieldLink RX4 190 "VtableTown$State" "hits" "[I", .fieldLink RX4 193 "VtableTown$State" "misses" "[I", .fieldLink RX4 219 "VtableTown$State" "runs" "I", .fieldLink RX4 225 "VtableTown$State" "lastSteps" "I", .methodLink RX4 207 yX4_countClasses, .instanceMethod yX4_countClasses, .selects RX4 yX4_countClasses yX4_countClasses, .code yX4_countClasses cX4_countClasses 5 (some .int), .methodLink RX4 211 yX4_countPlaces, .instanceMethod yX4_countPlaces, .selects RX4 yX4_countPlaces yX4_countPlaces, .code yX4_countPlaces cX4_countPlaces 4 (some .int), .methodLink RX4 179 yX4_isPlace, .instanceMethod yX4_isPlace, .selects RX4 yX4_isPlace yX4_isPlace, .code yX4_isPlace cX4_isPlace 4 (some .boolean), .methodLink RX4 302 yX3_isCall, .instanceMethod yX3_isCall, .selects RX3 yX3_isCall yX3_isCall, .code yX3_isCall cX3_isCall 5 (some .boolean), .methodLink RX4 215 yX4_sumOfPlaces, .instanceMethod yX4_sumOfPlaces]
set_option maxRecDepth 100000 in
theorem pw_in_11 : ∀ w ∈ pw_11, w ∈ lw_tbl := fun w h => (goodIn_r (big := lw_tbl) pw_11 [597, 600, 593, 595, 560, 569, 382, 384, 33, 385, 386, 388, 34, 389, 368, 370, 32, 371, 372, 208, 209, 210, 390, 392] (by decide +kernel) (by decide +kernel) w h).1
def pw_12 : List Cond := [.selects RX4 yX4_sumOfPlaces yX4_sumOfPlaces, .code yX4_sumOfPlaces cX4_sumOfPlaces 4 (some .int), .methodLink RX4 250 yX4_digestOfClass, .instanceMethod yX4_digestOfClass, .selects RX4 yX4_digestOfClass yX4_digestOfClass, .code yX4_digestOfClass cX4_digestOfClass 7 (some .long), .methodLink RX4 257 yX4_ofClass, .instanceMethod yX4_ofClass, .selects RX4 yX4_ofClass yX4_ofClass, .code yX4_ofClass cX4_ofClass 4 (some .int), .fieldLink RX4 147 "VtableTown$State" "faults" "[I", .fieldLink RX4 153 "VtableTown$State" "statics" "[I", .fieldLink RX4 156 "VtableTown$Finder" "of" "[I", .fieldLink RX4 159 "VtableTown$Finder" "lengths" "[I", .fieldLink RX4 162 "VtableTown$State" "made" "[I", .fieldLink RX4 165 "VtableTown$State" "orders" "[I", .methodLink RX4 260 yX4_isPlainAndLoaded, .instanceMethod yX4_isPlainAndLoaded, .selects RX4 yX4_isPlainAndLoaded yX4_isPlainAndLoaded, .code yX4_isPlainAndLoaded cX4_isPlainAndLoaded 2 (some .boolean), .methodLink RX4 263 yX4_finds, .instanceMethod yX4_finds, .selects RX4 yX4_finds yX4_finds, .code yX4_finds cX4_finds 3 (some .int)]
set_option maxRecDepth 100000 in
theorem pw_in_12 : ∀ w ∈ pw_12, w ∈ lw_tbl := fun w h => (goodIn_r (big := lw_tbl) pw_12 [35, 393, 429, 431, 36, 432, 433, 335, 336, 337, 575, 580, 530, 538, 583, 587, 434, 436, 37, 437, 438, 439, 440, 441] (by decide +kernel) (by decide +kernel) w h).1
def pw_13 : List Cond := [.fieldLink RX4 173 "VtableTown$Finder" "found" "[I", .methodLink RX4 170 yX4_checkFinder, .instanceMethod yX4_checkFinder, .selects RX4 yX4_checkFinder yX4_checkFinder, .code yX4_checkFinder cX4_checkFinder 3 none, .methodLink RX4 266 yX4_slot, .instanceMethod yX4_slot, .selects RX4 yX4_slot yX4_slot, .code yX4_slot cX4_slot 3 (some .int), .fieldLink RX4 176 "VtableTown$Finder" "slots" "[I", .methodLink RX4 254 yX4_digestOfPlaces, .instanceMethod yX4_digestOfPlaces, .selects RX4 yX4_digestOfPlaces yX4_digestOfPlaces, .code yX4_digestOfPlaces cX4_digestOfPlaces 9 (some .long), .methodLink RX4 269 yX4_ofPlace, .instanceMethod yX4_ofPlace, .selects RX4 yX4_ofPlace yX4_ofPlace, .code yX4_ofPlace cX4_ofPlace 6 (some .int), .methodLink RX4 187 yX2_cacheSize, .instanceMethod yX2_cacheSize, .selects RX2 yX2_cacheSize yX2_cacheSize, .code yX2_cacheSize cX2_cacheSize 3 (some .int), .methodLink RX2 71 yX2_cached, .instanceMethod yX2_cached]
set_option maxRecDepth 100000 in
theorem pw_in_13 : ∀ w ∈ pw_13, w ∈ lw_tbl := fun w h => (goodIn_r (big := lw_tbl) pw_13 [534, 442, 444, 38, 445, 447, 448, 449, 450, 536, 451, 453, 39, 454, 455, 365, 366, 367, 375, 282, 283, 284, 285, 286] (by decide +kernel) (by decide +kernel) w h).1
def pw_14 : List Cond := [.selects RX2 yX2_cached yX2_cached, .code yX2_cached cX2_cached 3 (some .int), .methodLink RX4 202 yX2_cached, .methodLink RX4 234 yX1_keepState, .instanceMethod yX1_keepState, .selects RX1 yX1_keepState yX1_keepState, .code yX1_keepState cX1_keepState 1 none, .fieldLink RX1 39 "VtableTown$Told" "count" "I", .methodLink RX1 45 yX2_copyFrom, .instanceMethod yX2_copyFrom, .selects RX2 yX2_copyFrom yX2_copyFrom, .code yX2_copyFrom cX2_copyFrom 4 none, .fieldLink RX2 48 "VtableTown$State" "loaded" "I", .fieldLink RX2 52 "VtableTown$State" "runs" "I", .fieldLink RX2 55 "VtableTown$State" "costs" "J", .fieldLink RX2 59 "VtableTown$State" "lastCost" "I", .fieldLink RX2 62 "VtableTown$State" "lastSteps" "I", .methodLink RX2 65 arraycopyName, .methodLink RX4 141 yX1_runFromOutside, .instanceMethod yX1_runFromOutside, .selects RX1 yX1_runFromOutside yX1_runFromOutside, .code yX1_runFromOutside cX1_runFromOutside 4 (some .int), .fieldLink RX1 53 "VtableTown$Machine" "steps" "I", .fieldLink RX1 56 "VtableTown$Machine" "cost" "I"]
set_option maxRecDepth 100000 in
theorem pw_in_14 : ∀ w ∈ pw_14, w ∈ lw_tbl := fun w h => (goodIn_r (big := lw_tbl) pw_14 [287, 288, 376, 403, 404, 405, 406, 474, 407, 408, 409, 410, 556, 558, 561, 564, 567, 411, 235, 236, 237, 238, 652, 653] (by decide +kernel) (by decide +kernel) w h).1
def pw_15 : List Cond := [.fieldLink RX1 59 "VtableTown$Machine" "fault" "I", .fieldLink RX1 66 "VtableTown$State" "runs" "I", .fieldLink RX1 69 "VtableTown$State" "costs" "J", .fieldLink RX1 73 "VtableTown$State" "lastCost" "I", .fieldLink RX1 76 "VtableTown$State" "lastSteps" "I", .methodLink RX1 62 yX1_makeAndCall, .instanceMethod yX1_makeAndCall, .selects RX1 yX1_makeAndCall yX1_makeAndCall, .code yX1_makeAndCall cX1_makeAndCall 4 (some .int), .fieldLink RX1 104 "VtableTown$Told" "isFace" "[Z", .methodLink RX1 49 yX1_loadClass, .instanceMethod yX1_loadClass, .selects RX1 yX1_loadClass yX1_loadClass, .code yX1_loadClass cX1_loadClass 3 (some .int), .fieldLink RX1 79 "VtableTown$State" "status" "[I", .fieldLink RX1 82 "VtableTown$State" "faults" "[I", .fieldLink RX1 85 "VtableTown$Machine" "loading" "I", .methodLink RX1 92 yX1_loadWhatIsNamed, .instanceMethod yX1_loadWhatIsNamed, .selects RX1 yX1_loadWhatIsNamed yX1_loadWhatIsNamed, .methodLink RX1 95 yX0_learn, .instanceMethod yX0_learn, .selects RX0 yX0_learn yX0_learn, .code yX0_learn cX0_learn 6 none]
set_option maxRecDepth 100000 in
theorem pw_in_15 : ∀ w ∈ pw_15, w ∈ lw_tbl := fun w h => (goodIn_r (big := lw_tbl) pw_15 [654, 559, 562, 565, 568, 239, 241, 14, 242, 479, 154, 156, 1, 158, 571, 574, 650, 162, 164, 2, 170, 171, 172, 173] (by decide +kernel) (by decide +kernel) w h).1
def pw_16 : List Cond := [.fieldLink RX0 32 "VtableTown$Told" "isFace" "[Z", .fieldLink RX0 38 "VtableTown$Told" "parents" "[I", .methodLink RX0 28 yX0_allOf, .instanceMethod yX0_allOf, .selects RX0 yX0_allOf yX0_allOf, .code yX0_allOf cX0_allOf 5 (some .int), .fieldLink RX0 55 "VtableTown$Told" "interfaces" "[I", .methodLink RX0 41 yX0_havingMethod, .instanceMethod yX0_havingMethod, .selects RX0 yX0_havingMethod yX0_havingMethod, .code yX0_havingMethod cX0_havingMethod 5 (some .int), .fieldLink RX0 62 "VtableTown$Told" "has" "[I", .methodLink RX0 45 yX0_lookInLine, .instanceMethod yX0_lookInLine, .selects RX0 yX0_lookInLine yX0_lookInLine, .code yX0_lookInLine cX0_lookInLine 6 (some .int), .methodLink RX0 48 yX0_lookInInterfaces, .instanceMethod yX0_lookInInterfaces, .selects RX0 yX0_lookInInterfaces yX0_lookInInterfaces, .code yX0_lookInInterfaces cX0_lookInInterfaces 7 (some .int), .methodLink RX0 51 yX0_learnSlot, .instanceMethod yX0_learnSlot, .selects RX0 yX0_learnSlot yX0_learnSlot, .code yX0_learnSlot cX0_learnSlot 6 none]
set_option maxRecDepth 100000 in
theorem pw_in_16 : ∀ w ∈ pw_16, w ∈ lw_tbl := fun w h => (goodIn_r (big := lw_tbl) pw_16 [477, 481, 174, 176, 4, 178, 484, 180, 182, 5, 183, 488, 187, 189, 6, 190, 191, 193, 7, 194, 195, 197, 8, 198] (by decide +kernel) (by decide +kernel) w h).1
def pw_17 : List Cond := [.methodLink RX1 101 yX1_becomeLoaded, .instanceMethod yX1_becomeLoaded, .selects RX1 yX1_becomeLoaded yX1_becomeLoaded, .code yX1_becomeLoaded cX1_becomeLoaded 2 none, .fieldLink RX1 124 "VtableTown$State" "orders" "[I", .fieldLink RX1 127 "VtableTown$State" "loaded" "I", .methodLink RX1 108 yX1_openPlaces, .instanceMethod yX1_openPlaces, .selects RX1 yX1_openPlaces yX1_openPlaces, .code yX1_openPlaces cX1_openPlaces 4 none, .fieldLink RX1 134 "VtableTown$State" "direct" "[I", .fieldLink RX1 137 "VtableTown$Finder" "found" "[I", .fieldLink RX1 140 "VtableTown$Told" "as" "[I", .methodLink RX1 130 yX3_isCall, .methodLink RX1 111 yX1_turnBackLine, .instanceMethod yX1_turnBackLine, .selects RX1 yX1_turnBackLine yX1_turnBackLine, .code yX1_turnBackLine cX1_turnBackLine 4 none, .fieldLink RX1 114 "VtableTown$Told" "parents" "[I", .methodLink RX1 143 yX1_turnBackPlaces, .instanceMethod yX1_turnBackPlaces, .selects RX1 yX1_turnBackPlaces yX1_turnBackPlaces, .code yX1_turnBackPlaces cX1_turnBackPlaces 6 none, .methodLink RX1 147 yX1_turnBack]
set_option maxRecDepth 100000 in
theorem pw_in_17 : ∀ w ∈ pw_17, w ∈ lw_tbl := fun w h => (goodIn_r (big := lw_tbl) pw_17 [199, 201, 9, 202, 586, 557, 203, 205, 10, 206, 589, 533, 497, 207, 212, 214, 11, 215, 482, 216, 218, 12, 219, 220] (by decide +kernel) (by decide +kernel) w h).1
def pw_18 : List Cond := [.instanceMethod yX1_turnBack, .selects RX1 yX1_turnBack yX1_turnBack, .code yX1_turnBack cX1_turnBack 3 none, .fieldLink RX1 150 "VtableTown$State" "turned" "[I", .fieldLink RX1 153 "VtableTown$Machine" "frames" "I", .code yX1_loadAs cX1_loadAs 4 (some .int), .code yX1_loadWhatIsNamed cX1_loadWhatIsNamed 5 (some .int), .fieldLink RX1 121 "VtableTown$Told" "interfaces" "[I", .methodLink RX1 117 yX1_loadAs, .instanceMethod yX1_loadAs, .selects RX1 yX1_loadAs yX1_loadAs, .methodLink RX1 159 yX1_initialise, .instanceMethod yX1_initialise, .selects RX1 yX1_initialise yX1_initialise, .methodLink RX1 166 yX1_newObject, .instanceMethod yX1_newObject, .selects RX1 yX1_newObject yX1_newObject, .code yX1_newObject cX1_newObject 5 (some .int), .fieldLink RX1 175 "VtableTown$State" "made" "[I", .methodLink RX1 169 yX1_runMakers, .instanceMethod yX1_runMakers, .selects RX1 yX1_runMakers yX1_runMakers, .methodLink RX1 172 yX1_callFound, .instanceMethod yX1_callFound]
set_option maxRecDepth 100000 in
theorem pw_in_18 : ∀ w ∈ pw_18, w ∈ lw_tbl := fun w h => (goodIn_r (big := lw_tbl) pw_18 [222, 13, 223, 599, 651, 169, 165, 485, 166, 168, 3, 243, 245, 15, 322, 324, 28, 325, 584, 326, 328, 29, 293, 295] (by decide +kernel) (by decide +kernel) w h).1
def pw_19 : List Cond := [.selects RX1 yX1_callFound yX1_callFound, .code yX1_callFound cX1_callFound 6 (some .int), .methodLink RX1 162 yX1_runRow, .instanceMethod yX1_runRow, .selects RX1 yX1_runRow yX1_runRow, .code yX1_callOwn cX1_callOwn 6 (some .int), .methodLink RX1 239 yX2_askCache, .instanceMethod yX2_askCache, .selects RX2 yX2_askCache yX2_askCache, .code yX2_askCache cX2_askCache 5 (some .int), .methodLink RX2 75 yX2_cacheSize, .code yX1_callSuper cX1_callSuper 5 (some .int), .code yX1_initialise cX1_initialise 3 none, .fieldLink RX1 156 "VtableTown$State" "wakes" "[I", .code yX1_keepStatic cX1_keepStatic 3 none, .fieldLink RX1 245 "VtableTown$State" "statics" "[I", .methodLink RX1 242 yX1_loadAndInitialise, .instanceMethod yX1_loadAndInitialise, .selects RX1 yX1_loadAndInitialise yX1_loadAndInitialise, .code yX1_loadAndInitialise cX1_loadAndInitialise 2 none, .code yX1_readStatic cX1_readStatic 2 (some .int), .code yX1_runMakers cX1_runMakers 5 none, .fieldLink RX1 181 "VtableTown$Told" "has" "[I", .methodLink RX1 178 yX3_ancestorOf]
set_option maxRecDepth 100000 in
theorem pw_in_19 : ∀ w ∈ pw_19, w ∈ lw_tbl := fun w h => (goodIn_r (big := lw_tbl) pw_19 [23, 296, 247, 249, 16, 276, 277, 278, 279, 280, 281, 292, 246, 578, 308, 581, 301, 303, 25, 304, 300, 329, 490, 330] (by decide +kernel) (by decide +kernel) w h).1
def pw_20 : List Cond := [.instanceMethod yX3_ancestorOf, .selects RX3 yX3_ancestorOf yX3_ancestorOf, .code yX3_ancestorOf cX3_ancestorOf 5 (some .int), .code yX1_runRow cX1_runRow 8 (some .int), .fieldLink RX1 187 "VtableTown$Told" "sizes" "[I", .methodLink RX1 190 yX1_runStep, .instanceMethod yX1_runStep, .selects RX1 yX1_runStep yX1_runStep, .methodLink RX1 193 yX1_held, .static yX1_held, .code yX1_held cX1_held 1 (some .int), .methodLink RX1 196 Lib.Math.min.name, .methodLink RX1 201 Lib.Math.max.name, .code yX1_runStep cX1_runStep 6 (some .int), .fieldLink RX1 204 "VtableTown$Told" "kinds" "[I", .fieldLink RX1 221 "VtableTown$Told" "bs" "[I", .methodLink RX1 207 yX1_getField, .instanceMethod yX1_getField, .selects RX1 yX1_getField yX1_getField, .code yX1_getField cX1_getField 5 (some .int), .methodLink RX1 236 yX1_valueAt, .instanceMethod yX1_valueAt, .selects RX1 yX1_valueAt yX1_valueAt, .code yX1_valueAt cX1_valueAt 5 (some .int)]
set_option maxRecDepth 100000 in
theorem pw_in_20 : ∀ w ∈ pw_20, w ∈ lw_tbl := fun w h => (goodIn_r (big := lw_tbl) pw_20 [331, 332, 333, 250, 492, 252, 254, 17, 313, 314, 315, 316, 319, 255, 495, 499, 256, 258, 18, 259, 260, 262, 19, 263] (by decide +kernel) (by decide +kernel) w h).1
def pw_21 : List Cond := [.methodLink RX1 233 yX3_declarerOf, .instanceMethod yX3_declarerOf, .selects RX3 yX3_declarerOf yX3_declarerOf, .code yX3_declarerOf cX3_declarerOf 5 (some .int), .methodLink RX1 211 yX1_putField, .instanceMethod yX1_putField, .selects RX1 yX1_putField yX1_putField, .code yX1_putField cX1_putField 6 none, .methodLink RX1 215 yX1_callOwn, .instanceMethod yX1_callOwn, .selects RX1 yX1_callOwn yX1_callOwn, .methodLink RX1 218 yX1_callSuper, .instanceMethod yX1_callSuper, .selects RX1 yX1_callSuper yX1_callSuper, .methodLink RX1 224 yX1_readStatic, .instanceMethod yX1_readStatic, .selects RX1 yX1_readStatic yX1_readStatic, .methodLink RX1 227 yX1_keepStatic, .instanceMethod yX1_keepStatic, .selects RX1 yX1_keepStatic yX1_keepStatic, .methodLink RX1 230 yX1_isOf, .instanceMethod yX1_isOf, .selects RX1 yX1_isOf yX1_isOf, .code yX1_isOf cX1_isOf 3 (some .int)]
set_option maxRecDepth 100000 in
theorem pw_in_21 : ∀ w ∈ pw_21, w ∈ lw_tbl := fun w h => (goodIn_r (big := lw_tbl) pw_21 [264, 265, 266, 267, 269, 271, 20, 272, 273, 275, 21, 289, 291, 22, 297, 299, 24, 305, 307, 26, 309, 311, 27, 312] (by decide +kernel) (by decide +kernel) w h).1
def pw_22 : List Cond := [.fieldLink RX1 248 "VtableTown$Finder" "of" "[I", .methodLink RX4 237 yX1_putStateBack, .instanceMethod yX1_putStateBack, .selects RX1 yX1_putStateBack yX1_putStateBack, .code yX1_putStateBack cX1_putStateBack 1 none, .methodLink RL 36 yX4_many, .methodLink RL 41 yX5_isPlace, .instanceMethod yX5_isPlace, .selects RX5 yX5_isPlace yX5_isPlace, .code yX5_isPlace cX5_isPlace 4 (some .boolean), .methodLink RL 45 yX4_ofPlace, .methodLink RL 49 yX4_wouldCost, .instanceMethod yX4_wouldCost, .selects RX4 yX4_wouldCost yX4_wouldCost, .code yX4_wouldCost cX4_wouldCost 4 (some .int), .methodLink RX4 138 yX4_checkNumberAndName, .static yX4_checkNumberAndName, .code yX4_checkNumberAndName cX4_checkNumberAndName 2 none, .methodLink RX4 131 yX4_checkNumber, .static yX4_checkNumber, .code yX4_checkNumber cX4_checkNumber 1 none, .methodLink RL 53 yX4_wouldRun, .instanceMethod yX4_wouldRun, .selects RX4 yX4_wouldRun yX4_wouldRun]
set_option maxRecDepth 100000 in
theorem pw_in_22 : ∀ w ∈ pw_22, w ∈ lw_tbl := fun w h => (goodIn_r (big := lw_tbl) pw_22 [531, 414, 415, 416, 417, 378, 912, 913, 914, 915, 364, 418, 419, 420, 421, 228, 229, 230, 74, 75, 76, 399, 400, 401] (by decide +kernel) (by decide +kernel) w h).1
def pw_23 : List Cond := [.code yX4_wouldRun cX4_wouldRun 4 (some .int), .methodLink RL 56 yX5_runNow, .instanceMethod yX5_runNow, .selects RX5 yX5_runNow yX5_runNow, .code yX5_runNow cX5_runNow 4 (some .int), .fieldLink RX5 184 "VtableTownLaw$Town" "cost" "I", .fieldLink RX5 193 "VtableTownLaw$Town" "steps" "I", .fieldLink RX5 190 "VtableTownLaw$Town" "failed" "I", .fieldLink RX5 221 "VtableTownLaw$Town" "runs" "I", .fieldLink RX5 224 "VtableTownLaw$Town" "allCosts" "I", .methodLink RX5 210 yX5_makes, .instanceMethod yX5_makes, .selects RX5 yX5_makes yX5_makes, .code yX5_makes cX5_makes 6 (some .int), .methodLink RX5 174 yX5_loadNow, .instanceMethod yX5_loadNow, .selects RX5 yX5_loadNow yX5_loadNow, .code yX5_loadNow cX5_loadNow 10 (some .int), .fieldLink RX5 181 "VtableTownLaw$Town" "loaded" "I", .methodLink RX5 177 yX5_direct, .instanceMethod yX5_direct, .selects RX5 yX5_direct yX5_direct, .code yX5_direct cX5_direct 3 (some (.array .boolean)), .methodLink RX5 167 yX5_isPlace]
set_option maxRecDepth 100000 in
theorem pw_in_23 : ∀ w ∈ pw_23, w ∈ lw_tbl := fun w h => (goodIn_r (big := lw_tbl) pw_23 [402, 942, 943, 944, 945, 723, 724, 725, 721, 722, 946, 948, 48, 949, 920, 917, 918, 919, 718, 921, 923, 46, 924, 925] (by decide +kernel) (by decide +kernel) w h).1
def pw_24 : List Cond := [.methodLink RX5 171 yX5_isDirect, .instanceMethod yX5_isDirect, .selects RX5 yX5_isDirect yX5_isDirect, .code yX5_isDirect cX5_isDirect 5 (some .boolean), .methodLink RX5 164 yX5_find, .instanceMethod yX5_find, .selects RX5 yX5_find yX5_find, .code yX5_find cX5_find 7 (some .int), .methodLink RX5 145 yX5_of, .instanceMethod yX5_of, .selects RX5 yX5_of yX5_of, .code yX5_of cX5_of 6 (some (.array .boolean)), .methodLink RX5 149 yX5_isBelowAnother, .instanceMethod yX5_isBelowAnother, .selects RX5 yX5_isBelowAnother yX5_isBelowAnother, .code yX5_isBelowAnother cX5_isBelowAnother 5 (some .boolean), .methodLink RX5 203 yX5_fails, .instanceMethod yX5_fails, .selects RX5 yX5_fails yX5_fails, .code yX5_fails cX5_fails 2 (some .int), .methodLink RX5 213 yX5_wakes, .instanceMethod yX5_wakes, .selects RX5 yX5_wakes yX5_wakes, .methodLink RX5 217 yX5_raise]
set_option maxRecDepth 100000 in
theorem pw_in_24 : ∀ w ∈ pw_24, w ∈ lw_tbl := fun w h => (goodIn_r (big := lw_tbl) pw_24 [926, 927, 928, 929, 930, 931, 932, 933, 934, 935, 936, 937, 938, 940, 47, 941, 950, 952, 49, 953, 954, 956, 50, 976] (by decide +kernel) (by decide +kernel) w h).1
def pw_25 : List Cond := [.instanceMethod yX5_raise, .selects RX5 yX5_raise yX5_raise, .methodLink RX5 206 yX5_go, .instanceMethod yX5_go, .selects RX5 yX5_go yX5_go, .code yX5_calls cX5_calls 10 (some .int), .methodLink RX5 157 yX5_slot, .static yX5_slot, .code yX5_slot cX5_slot 3 (some .int), .methodLink RX5 160 yX5_plus, .static yX5_plus, .code yX5_plus cX5_plus 3 (some (.array .int)), .code yX5_does cX5_does 9 (some .int), .methodLink RX5 200 yX5_calls, .instanceMethod yX5_calls, .selects RX5 yX5_calls yX5_calls, .code yX5_go cX5_go 8 (some .int), .methodLink RX5 196 yX5_does, .instanceMethod yX5_does, .selects RX5 yX5_does yX5_does, .code yX5_raise cX5_raise 3 none, .code yX5_wakes cX5_wakes 2 none, .methodLink RL 59 yX4_run, .instanceMethod yX4_run]
set_option maxRecDepth 100000 in
theorem pw_in_25 : ∀ w ∈ pw_25, w ∈ lw_tbl := fun w h => (goodIn_r (big := lw_tbl) pw_25 [978, 54, 958, 960, 51, 972, 973, 974, 975, 962, 963, 964, 968, 969, 971, 53, 961, 965, 967, 52, 979, 957, 224, 225] (by decide +kernel) (by decide +kernel) w h).1
def pw_26 : List Cond := [.selects RX4 yX4_run yX4_run, .code yX4_run cX4_run 3 (some .int), .methodLink RL 62 yX5_loadNow, .methodLink RL 65 yX4_load, .instanceMethod yX4_load, .selects RX4 yX4_load yX4_load, .code yX4_load cX4_load 2 (some .int), .methodLink RX4 134 yX1_loadFromOutside, .instanceMethod yX1_loadFromOutside, .selects RX1 yX1_loadFromOutside yX1_loadFromOutside, .code yX1_loadFromOutside cX1_loadFromOutside 2 (some .int), .methodLink RL 68 yX4_ofClass, .methodLink RL 71 yX4_meanCost, .instanceMethod yX4_meanCost, .selects RX4 yX4_meanCost yX4_meanCost, .code yX4_meanCost cX4_meanCost 1 (some .double), .fieldLink RX4 230 "VtableTown$State" "costs" "J"]
set_option maxRecDepth 100000 in
theorem pw_in_26 : ∀ w ∈ pw_26, w ∈ lw_tbl := fun w h => (goodIn_r (big := lw_tbl) pw_26 [226, 227, 916, 70, 71, 72, 73, 150, 151, 152, 153, 334, 395, 396, 397, 398, 563] (by decide +kernel) (by decide +kernel) w h).1
def pw_ws : List Cond := (pw_0 ++ (pw_1 ++ (pw_2 ++ (pw_3 ++ (pw_4 ++ (pw_5 ++ (pw_6 ++ (pw_7 ++ (pw_8 ++ (pw_9 ++ (pw_10 ++ (pw_11 ++ (pw_12 ++ (pw_13 ++ (pw_14 ++ (pw_15 ++ (pw_16 ++ (pw_17 ++ (pw_18 ++ (pw_19 ++ (pw_20 ++ (pw_21 ++ (pw_22 ++ (pw_23 ++ (pw_24 ++ (pw_25 ++ pw_26))))))))))))))))))))))))))
theorem pw_ws_in : ∀ w ∈ pw_ws, w ∈ lw_tbl := fun w h => (List.mem_append.mp h).elim (fun h => pw_in_0 w h) (fun h => (List.mem_append.mp h).elim (fun h => pw_in_1 w h) (fun h => (List.mem_append.mp h).elim (fun h => pw_in_2 w h) (fun h => (List.mem_append.mp h).elim (fun h => pw_in_3 w h) (fun h => (List.mem_append.mp h).elim (fun h => pw_in_4 w h) (fun h => (List.mem_append.mp h).elim (fun h => pw_in_5 w h) (fun h => (List.mem_append.mp h).elim (fun h => pw_in_6 w h) (fun h => (List.mem_append.mp h).elim (fun h => pw_in_7 w h) (fun h => (List.mem_append.mp h).elim (fun h => pw_in_8 w h) (fun h => (List.mem_append.mp h).elim (fun h => pw_in_9 w h) (fun h => (List.mem_append.mp h).elim (fun h => pw_in_10 w h) (fun h => (List.mem_append.mp h).elim (fun h => pw_in_11 w h) (fun h => (List.mem_append.mp h).elim (fun h => pw_in_12 w h) (fun h => (List.mem_append.mp h).elim (fun h => pw_in_13 w h) (fun h => (List.mem_append.mp h).elim (fun h => pw_in_14 w h) (fun h => (List.mem_append.mp h).elim (fun h => pw_in_15 w h) (fun h => (List.mem_append.mp h).elim (fun h => pw_in_16 w h) (fun h => (List.mem_append.mp h).elim (fun h => pw_in_17 w h) (fun h => (List.mem_append.mp h).elim (fun h => pw_in_18 w h) (fun h => (List.mem_append.mp h).elim (fun h => pw_in_19 w h) (fun h => (List.mem_append.mp h).elim (fun h => pw_in_20 w h) (fun h => (List.mem_append.mp h).elim (fun h => pw_in_21 w h) (fun h => (List.mem_append.mp h).elim (fun h => pw_in_22 w h) (fun h => (List.mem_append.mp h).elim (fun h => pw_in_23 w h) (fun h => (List.mem_append.mp h).elim (fun h => pw_in_24 w h) (fun h => (List.mem_append.mp h).elim (fun h => pw_in_25 w h) (fun h => pw_in_26 w h))))))))))))))))))))))))))
set_option maxRecDepth 100000 in
theorem pw_tX4 : ∀ w ∈ wsX40, w ∈ lw_tbl := by decide +kernel
set_option maxRecDepth 100000 in
theorem pw_tX5 : ∀ w ∈ wsX50, w ∈ lw_tbl := by decide +kernel
set_option maxRecDepth 100000 in
theorem pw_tX3 : ∀ w ∈ wsX30, w ∈ lw_tbl := by decide +kernel
set_option maxRecDepth 100000 in
theorem pw_tX0 : ∀ w ∈ wsX00, w ∈ lw_tbl := by decide +kernel
set_option maxRecDepth 100000 in
theorem pw_tX2 : ∀ w ∈ wsX20, w ∈ lw_tbl := by decide +kernel
set_option maxRecDepth 100000 in
theorem pw_tX1 : ∀ w ∈ wsX10, w ∈ lw_tbl := by decide +kernel
def pw_x0 : List Cond := (vx_atS RX4 49 "java/lang/IllegalArgumentException" ["java/lang/RuntimeException", "java/lang/Exception"]).filter goodWord
set_option maxRecDepth 100000 in
theorem pw_xin0 : ∀ w ∈ pw_x0, w ∈ lw_tbl := by decide +kernel
def pw_x1 : List Cond := (vx_atS RX4 100 "java/lang/IllegalStateException" ["java/lang/RuntimeException", "java/lang/Exception"]).filter goodWord
set_option maxRecDepth 100000 in
theorem pw_xin1 : ∀ w ∈ pw_x1, w ∈ lw_tbl := by decide +kernel
def pw_x2 : List Cond := (vx_atS RX4 124 "java/lang/IndexOutOfBoundsException" ["java/lang/RuntimeException", "java/lang/Exception"]).filter goodWord
set_option maxRecDepth 100000 in
theorem pw_xin2 : ∀ w ∈ pw_x2, w ∈ lw_tbl := by decide +kernel
def pw_all : List Cond := pw_ws ++ wsX40 ++ wsX50 ++ wsX30 ++ wsX00 ++ wsX20 ++ wsX10 ++ pw_x0 ++ pw_x1 ++ pw_x2
theorem pw_all_in : ∀ w ∈ pw_all, w ∈ lw_tbl := fun w h => (List.mem_append.mp h).elim (fun h => (List.mem_append.mp h).elim (fun h => (List.mem_append.mp h).elim (fun h => (List.mem_append.mp h).elim (fun h => (List.mem_append.mp h).elim (fun h => (List.mem_append.mp h).elim (fun h => (List.mem_append.mp h).elim (fun h => (List.mem_append.mp h).elim (fun h => (List.mem_append.mp h).elim (fun h => pw_ws_in w h) (fun h => pw_tX4 w h)) (fun h => pw_tX5 w h)) (fun h => pw_tX3 w h)) (fun h => pw_tX0 w h)) (fun h => pw_tX2 w h)) (fun h => pw_tX1 w h)) (fun h => pw_xin0 w h)) (fun h => pw_xin1 w h)) (fun h => pw_xin2 w h)
theorem inlX4 : ∀ w ∈ wsX40, w ∈ pw_all := fun _ h => List.mem_append_left _ (List.mem_append_left _ (List.mem_append_left _ (List.mem_append_left _ (List.mem_append_left _ (List.mem_append_left _ (List.mem_append_left _ (List.mem_append_left _ (List.mem_append_right _ h))))))))
theorem inlX5 : ∀ w ∈ wsX50, w ∈ pw_all := fun _ h => List.mem_append_left _ (List.mem_append_left _ (List.mem_append_left _ (List.mem_append_left _ (List.mem_append_left _ (List.mem_append_left _ (List.mem_append_left _ (List.mem_append_right _ h)))))))
theorem inlX3 : ∀ w ∈ wsX30, w ∈ pw_all := fun _ h => List.mem_append_left _ (List.mem_append_left _ (List.mem_append_left _ (List.mem_append_left _ (List.mem_append_left _ (List.mem_append_left _ (List.mem_append_right _ h))))))
theorem inlX0 : ∀ w ∈ wsX00, w ∈ pw_all := fun _ h => List.mem_append_left _ (List.mem_append_left _ (List.mem_append_left _ (List.mem_append_left _ (List.mem_append_left _ (List.mem_append_right _ h)))))
theorem inlX2 : ∀ w ∈ wsX20, w ∈ pw_all := fun _ h => List.mem_append_left _ (List.mem_append_left _ (List.mem_append_left _ (List.mem_append_left _ (List.mem_append_right _ h))))
theorem inlX1 : ∀ w ∈ wsX10, w ∈ pw_all := fun _ h => List.mem_append_left _ (List.mem_append_left _ (List.mem_append_left _ (List.mem_append_right _ h)))
theorem pl_x0 : ∀ w ∈ pw_x0, w ∈ pw_all := fun _ h => List.mem_append_left _ (List.mem_append_left _ (List.mem_append_right _ h))
theorem pl_x1 : ∀ w ∈ pw_x1, w ∈ pw_all := fun _ h => List.mem_append_left _ (List.mem_append_right _ h)
theorem pl_x2 : ∀ w ∈ pw_x2, w ∈ pw_all := fun _ h => List.mem_append_right _ h
/-! one list of words for all methods -/
set_option maxRecDepth 100000 in
theorem pl_good : pw_all.all goodWord = true := by decide +kernel
theorem pl_go {w : Cond} (h : w ∈ pw_all) : (w.onTables && w.keeps) = true ∨ ∃ ty, w = .arrayClass ty := good_of_word (List.all_eq_true.mp pl_good w h)
abbrev pl_h (y : MethodName) (c : ByteArray) (n : Nat) (r : Option FieldType) : List Cond := .code y c n r :: pw_all
abbrev pl_hw (y : MethodName) (c : ByteArray) (n : Nat) (r : Option FieldType) (hh : List (Nat × Nat × Nat × Nat)) : List Cond := .codeWith y c n r hh :: pw_all
theorem pl_m (i : Nat) {w : Cond} (h : pw_all[i]? = some w) : w ∈ pw_all := List.mem_of_getElem? h
theorem pl_L {h' : Cond} (h : h' ∈ pw_all) : GoodIn pw_all (h' :: pw_all) := fun w hw => (List.mem_cons.mp hw).elim (fun e => by rw [e]; exact ⟨h, pl_go h⟩) (fun h => ⟨h, pl_go h⟩)
theorem pl_V {own C : String} {idx : Nat} {y : MethodName} {h' : Cond} (h1 : Cond.methodLink own idx y ∈ pw_all) (h2 : Cond.instanceMethod y ∈ pw_all) (h3 : Cond.selects C y y ∈ pw_all) (h4 : Cond.initialized C ∈ pw_all) (h5 : h' ∈ pw_all) : GoodIn pw_all (wsV own idx C y (h' :: pw_all)) := by
  intro w hw
  simp only [wsV, List.cons_append, List.nil_append, List.mem_cons] at hw
  rcases hw with rfl | rfl | rfl | rfl | rfl | h
  · exact ⟨h1, pl_go h1⟩
  · exact ⟨h2, pl_go h2⟩
  · exact ⟨h3, pl_go h3⟩
  · exact ⟨h4, pl_go h4⟩
  · exact ⟨h5, pl_go h5⟩
  · exact ⟨h, pl_go h⟩
theorem pl_S {own : String} {idx : Nat} {y : MethodName} {h' : Cond} (h1 : Cond.methodLink own idx y ∈ pw_all) (h2 : Cond.static y ∈ pw_all) (h4 : Cond.initialized y.cls ∈ pw_all) (h5 : h' ∈ pw_all) : GoodIn pw_all (va_wsS own idx y (h' :: pw_all)) := by
  intro w hw
  simp only [va_wsS, List.cons_append, List.nil_append, List.mem_cons] at hw
  rcases hw with rfl | rfl | rfl | rfl | h
  · exact ⟨h1, pl_go h1⟩
  · exact ⟨h2, pl_go h2⟩
  · exact ⟨h4, pl_go h4⟩
  · exact ⟨h5, pl_go h5⟩
  · exact ⟨h, pl_go h⟩
end
section
/-- new cells alone -/
def pn_N (sz : Nat) : Nat → Prop := fun q => sz ≤ q
/-- a start that only reads: the cells, the classes -/
def pn_B (D : va_G) (Y : List (ClassId × FieldType)) (ws : va_W) (sz : Nat) : State → Prop := fun U => U.heap.size = sz ∧ va_P D vwCl ws U.heap ∧ va_K D vwCl Y U
theorem pn_B_blind {av : List Value} {D : va_G} {Y : List (ClassId × FieldType)} {ws : va_W} {sz : Nat} : FrameBlind (va_Pc av (pn_B D Y ws sz)) := by
  intro a U g mk q
  obtain ⟨q0, q1, qP, qK⟩ := q
  exact ⟨q0, q1, qP, va_K.moved (u := U) (U := U.calling g mk a) (Vm.Alike.refl U.vm) qK⟩
theorem pn_B_at {av : List Value} {D : va_G} {Y : List (ClassId × FieldType)} {ws : va_W} {s : State} {H : Heap} (hP : va_P D vwCl ws H) (hK : va_K D vwCl Y s) : ∀ U : State, U.heap = H → s.WarmedH U.vm → va_Pc av (pn_B D Y ws H.size) av.toArray U :=
  fun U hU hW => ⟨rfl, by rw [hU], by rw [hU]; exact hP, va_K.moved hW.alike hK⟩
/-- a start that writes: the cells are apart -/
def pn_M (D : va_G) (Y : List (ClassId × FieldType)) (ws : va_W) (sz : Nat) : State → Prop := fun U => U.heap.size = sz ∧ va_P D vwCl ws U.heap ∧ va_K D vwCl Y U ∧ va_D (fun _ => True) ws
theorem pn_M_blind {av : List Value} {D : va_G} {Y : List (ClassId × FieldType)} {ws : va_W} {sz : Nat} : FrameBlind (va_Pc av (pn_M D Y ws sz)) := by
  intro a U g mk q
  obtain ⟨q0, q1, qP, qK, qD⟩ := q
  exact ⟨q0, q1, qP, va_K.moved (u := U) (U := U.calling g mk a) (Vm.Alike.refl U.vm) qK, qD⟩
theorem pn_M_at {av : List Value} {D : va_G} {Y : List (ClassId × FieldType)} {ws : va_W} {s : State} {H : Heap} {A : Nat → Prop} (hP : va_P D vwCl ws H) (hD : va_D A ws) (hK : va_K D vwCl Y s) : ∀ U : State, U.heap = H → s.WarmedH U.vm → va_Pc av (pn_M D Y ws H.size) av.toArray U :=
  fun U hU hW => ⟨rfl, by rw [hU], by rw [hU]; exact hP, va_K.moved hW.alike hK, hD.weaken (fun _ _ _ _ => trivial)⟩
/-- the words of throws that the tables give to the law alone -/
def pn_in (X : String) : MethodName := ⟨X, "<init>", "(Ljava/lang/String;)V"⟩
def pn_ws : List Cond := [.declares (pn_in "java/lang/RuntimeException"), .declares (pn_in "java/lang/Exception"), .declares (pn_in "java/lang/Throwable"), .castable "java/lang/IllegalArgumentException" "java/lang/IllegalArgumentException", .castable "java/lang/IllegalStateException" "java/lang/IllegalStateException", .castable "java/lang/IndexOutOfBoundsException" "java/lang/IndexOutOfBoundsException"]
def pn_sl : List (Nat × String) := [(47, "no such parent"), (71, "an interface has no maker"), (80, "a maker is never abstract"), (86, "no such step"), (98, "no body for that name"), (115, "no such step of an initialiser"), (122, "no such field"), (125, "an interface declares no fields"), (168, "what is 0 to 8"), (182, "no such place"), (205, "what is 0 to 6"), (228, "what is 0 to 13"), (272, "no such set of interfaces"), (274, "there are 12 classes"), (279, "no such class"), (281, "no such name"), (283, "the class is no longer fresh"), (288, "there are 6 steps"), (293, "a class is 0 to 11"), (298, "a name to run is 1 to 5"), (300, "no plain and loaded class, or no such name")]
def pn_ne : List Cond := [.methodLinkNest RX4 11 yX3_init RX4, .methodLinkNest RX4 27 yX2_init RX4, .methodLinkNest RX1 11 yX2_init RX4]
/-- arrays of int arrays can be made -/
def pn_AG (U : State) : Prop := (Cond.arrayOver (.array .int)).before #[] U = true
theorem pn_AG.moved {u U : State} (hvm : u.vm.Alike U.vm) (h : pn_AG u) : pn_AG U := by
  obtain ⟨comp, c, k, h1, h2, h3, h4, h5⟩ := arrayOverA_spec h
  obtain ⟨k', hk', he⟩ := hvm.2.2 _ _ h3
  have hi : (U.vm.classes.findIdx? fun (x : Class) => match x.kind with | .array component _ => component == comp | _ => false) = some c := by
    have e1 := va_idx_bare U.vm comp
    have e2 := va_idx_bare u.vm comp
    have e3 : U.vm.bare = u.vm.bare := by first | exact hvm.bare_eq | exact hvm.bare_eq.symm
    rw [e3] at e1
    exact (e1.symm.trans e2).trans h2
  have hkind : k'.kind = .array comp (.array .int) := by rw [he]; exact h4
  have f1 : U.vm.findClass (FieldType.array .int).toString = some comp := by rw [hvm.findClass]; exact h1
  have f2 : U.vm.findClass ("[" ++ (FieldType.array .int).toString) = some c := by rw [hvm.findClass]; exact h5
  unfold pn_AG Cond.before Cond.holds
  simp only [Cond.value]
  rw [f1, Option.bind_some]
  refine (congrArg (fun o : Option Nat => (o.bind (fun c => (U.vm.classes[c]?).map fun (k : Class) => match k.kind with | .array _ ty => decide (ty = FieldType.array .int) && decide (U.vm.findClass ("[" ++ (FieldType.array .int).toString) = some c) | _ => false) == some true)) hi).trans ?_
  simp [hk', hkind, f2]
def pn_T (U : State) : Prop := (∀ w ∈ pn_ws, va_Nw w U) ∧ (∀ q ∈ pn_sl, ∃ sa : Nat, vk_R RX4 q.1 q.2 sa U) ∧ (∀ w ∈ pn_ne, va_Nw w U) ∧ pn_AG U
theorem pn_T.same {u U : State} (h : u.vm = U.vm) (q : pn_T u) : pn_T U := by
  refine ⟨fun w hw => ?_, fun x hx => ?_, fun w hw => ?_, ?_⟩
  · have h1 := q.1 w hw
    have ho : w.onTables = true := by
      simp only [pn_ws, List.mem_cons, List.not_mem_nil, or_false] at hw
      rcases hw with rfl | rfl | rfl | rfl | rfl | rfl <;> rfl
    exact va_Nw.same ho h h1
  · obtain ⟨sa, h1⟩ := q.2.1 x hx
    exact ⟨sa, vk_R.same h.symm h1⟩
  · have h1 := q.2.2.1 w hw
    have ho : w.onTables = true := by
      simp only [pn_ne, List.mem_cons, List.not_mem_nil, or_false] at hw
      rcases hw with rfl | rfl | rfl <;> rfl
    exact va_Nw.same ho h h1
  · exact pn_AG.moved (by rw [← h]; exact Vm.Alike.refl u.vm) q.2.2.2
theorem pn_T.warm {s U : State} (hW : s.WarmedH U.vm) (q : pn_T s) : pn_T U := by
  refine ⟨fun w hw => ?_, fun x hx => ?_, fun w hw => ?_, pn_AG.moved hW.alike q.2.2.2⟩
  · have h1 := q.1 w hw
    simp only [pn_ws, List.mem_cons, List.not_mem_nil, or_false] at hw
    rcases hw with rfl | rfl | rfl | rfl | rfl | rfl
    · exact va_Nw.warmD hW h1
    · exact va_Nw.warmD hW h1
    · exact va_Nw.warmD hW h1
    · exact va_Nw.warmC hW h1
    · exact va_Nw.warmC hW h1
    · exact va_Nw.warmC hW h1
  · obtain ⟨sa, h1⟩ := q.2.1 x hx
    exact ⟨sa, vk_R.warm hW h1⟩
  · have h1 := q.2.2.1 w hw
    simp only [pn_ne, List.mem_cons, List.not_mem_nil, or_false] at hw
    rcases hw with rfl | rfl | rfl
    · exact va_Nw.warmM hW h1
    · exact va_Nw.warmM hW h1
    · exact va_Nw.warmM hW h1
def pn_Z (A : Nat → Prop) (U : State) (H : Heap) : Prop := vx_Zq Bundle.tN "UNASSIGNED_STACK" Bundle.steD A U H ∧ vx_Zq Bundle.tN "SUPPRESSED_SENTINEL" Bundle.listD A U H
/-- a start of a method that may throw -/
def pn_X (D : va_G) (Y : List (ClassId × FieldType)) (ws : va_W) (A : Nat → Prop) (sz : Nat) : State → Prop := fun U => pn_M D Y ws sz U ∧ pn_Z A U U.heap ∧ pn_T U
theorem pn_X_blind {av : List Value} {D : va_G} {Y : List (ClassId × FieldType)} {ws : va_W} {A : Nat → Prop} {sz : Nat} : FrameBlind (va_Pc av (pn_X D Y ws A sz)) := by
  intro a U g mk q
  obtain ⟨q0, ⟨q1, qP, qK, qD⟩, ⟨z1, z2⟩, qT⟩ := q
  exact ⟨q0, ⟨q1, qP, va_K.moved (u := U) (U := U.calling g mk a) (Vm.Alike.refl U.vm) qK, qD⟩, ⟨vx_Zq.moved (u := U) (U := U.calling g mk a) (Vm.Alike.refl U.vm) z1, vx_Zq.moved (u := U) (U := U.calling g mk a) (Vm.Alike.refl U.vm) z2⟩, pn_T.same (u := U) (U := U.calling g mk a) rfl qT⟩
theorem pn_X_at {av : List Value} {D : va_G} {Y : List (ClassId × FieldType)} {ws : va_W} {s : State} {H : Heap} {locs : List Loc} {A A1 : Nat → Prop} {Aw : Nat → Prop} (hP : va_P D vwCl ws H) (hD : va_D Aw ws) (hK : va_K D vwCl Y s) (hS : va_S A s.heap H locs) (hZ : pn_Z A s s.heap) (hT : pn_T s) (hAB : ∀ q, A1 q → A q) : ∀ U : State, U.heap = H → s.WarmedH U.vm → va_Pc av (pn_X D Y ws A1 H.size) av.toArray U :=
  fun U hU hW => ⟨rfl, ⟨by rw [hU], by rw [hU]; exact hP, va_K.moved hW.alike hK, hD.weaken (fun _ _ _ _ => trivial)⟩, ⟨by rw [hU]; exact ((hZ.1.kept (fun a h1 h2 => hS.2.1 a h1 h2)).moved hW.alike).narrow hAB, by rw [hU]; exact ((hZ.2.kept (fun a h1 h2 => hS.2.1 a h1 h2)).moved hW.alike).narrow hAB⟩, pn_T.warm hW hT⟩
theorem pn_NA {A0 : Nat → Prop} {H0 H : Heap} {locs : List Loc} (hS : va_S A0 H0 H locs) (hA : ∀ q, H0.size ≤ q → A0 q) : ∀ q, pn_N H.size q → A0 q := fun q h => hA q (Nat.le_trans hS.1 h)
theorem pn_pk {D : va_G} {cl : List vw_C} {ws : va_W} {H H1 : Heap} (hP : va_P D cl ws H) (hk : ∀ q : Nat, q < H.size → ¬ pn_N H.size q → H1[q]? = H[q]?) : va_P D cl ws H1 :=
  hP.kept (fun k x hx => hk x.1 ((hP k x hx).lt) (Nat.not_le.mpr (hP k x hx).lt))
section PNC
variable {p : Program} {l : Launch} {e : Env} {R : Room} {s : State} {m : MethodId} {args : Array Value} {below : List Frame} {meth : Method} {c : Code} {H : Heap} {locs : List Loc} {cells slots : Nat} {Q : State → Prop}
variable {pc : Nat} {ls : Array Slot} {rest st0 : List Value} {a : Array Value} {A0 : Nat → Prop} {H0 : Heap} {mc ms : Nat} {D : va_G} {cl : List vw_C} {ws : va_W}
/-- a call that only reads: what stood stands -/
theorem pn_ci {post : Int32 → Prop} (hr : va_Run p l e R s m args below meth c H locs cells slots mc ms (F0 m pc ls st0) rest (va_Qi (fun r (_ : Unit) => post r) (fun _ _ => True) (pn_N H.size) a) (pn_N H.size)) (hS : va_S A0 H0 H locs) (hA : ∀ q, H0.size ≤ q → A0 q) (hP : va_P D cl ws H)
    (kk : ∀ (r : Int32) (H1 : Heap) (locs1 : List Loc), post r → va_P D cl ws H1 → va_S A0 H0 H1 locs1 → W p l e R s m args below meth c H1 locs1 (cells + mc) (slots + ms) Q (F0 m (pc + 3) ls (.int r :: rest))) : W p l e R s m args below meth c H locs cells slots Q (F0 m pc ls st0) :=
  va_calli hr hS (fun q _ h => pn_NA hS hA q h) (pn_NA hS hA) (fun r u t H1 locs1 ht hvm hw hB hz1 hk1 hS1 => kk r H1 locs1 hw (pn_pk hP hk1) hS1)
theorem pn_cl {post : Int64 → Prop} (hr : va_Run p l e R s m args below meth c H locs cells slots mc ms (F0 m pc ls st0) rest (va_Ql (fun r (_ : Unit) => post r) (fun _ _ => True) (pn_N H.size) a) (pn_N H.size)) (hS : va_S A0 H0 H locs) (hA : ∀ q, H0.size ≤ q → A0 q) (hP : va_P D cl ws H)
    (kk : ∀ (r : Int64) (H1 : Heap) (locs1 : List Loc), post r → va_P D cl ws H1 → va_S A0 H0 H1 locs1 → W p l e R s m args below meth c H1 locs1 (cells + mc) (slots + ms) Q (F0 m (pc + 3) ls (.long r :: rest))) : W p l e R s m args below meth c H locs cells slots Q (F0 m pc ls st0) :=
  va_calll hr hS (fun q _ h => pn_NA hS hA q h) (pn_NA hS hA) (fun r u t H1 locs1 ht hvm hw hB hz1 hk1 hS1 => kk r H1 locs1 hw (pn_pk hP hk1) hS1)
theorem pn_cd {post : UInt64 → Prop} (hr : va_Run p l e R s m args below meth c H locs cells slots mc ms (F0 m pc ls st0) rest (va_Qd (fun r (_ : Unit) => post r) (fun _ _ => True) (pn_N H.size) a) (pn_N H.size)) (hS : va_S A0 H0 H locs) (hA : ∀ q, H0.size ≤ q → A0 q) (hP : va_P D cl ws H)
    (kk : ∀ (r : UInt64) (H1 : Heap) (locs1 : List Loc), post r → va_P D cl ws H1 → va_S A0 H0 H1 locs1 → W p l e R s m args below meth c H1 locs1 (cells + mc) (slots + ms) Q (F0 m (pc + 3) ls (.double r :: rest))) : W p l e R s m args below meth c H locs cells slots Q (F0 m pc ls st0) :=
  va_calld hr hS (fun q _ h => pn_NA hS hA q h) (pn_NA hS hA) (fun r u t H1 locs1 ht hvm hw hB hz1 hk1 hS1 => kk r H1 locs1 hw (pn_pk hP hk1) hS1)
theorem pn_cv {post : Prop} (hr : va_Run p l e R s m args below meth c H locs cells slots mc ms (F0 m pc ls st0) rest (va_Qv (fun (_ : Unit) => post) (fun _ _ => True) (pn_N H.size) a) (pn_N H.size)) (hS : va_S A0 H0 H locs) (hA : ∀ q, H0.size ≤ q → A0 q) (hP : va_P D cl ws H)
    (kk : ∀ (H1 : Heap) (locs1 : List Loc), post → va_P D cl ws H1 → va_S A0 H0 H1 locs1 → W p l e R s m args below meth c H1 locs1 (cells + mc) (slots + ms) Q (F0 m (pc + 3) ls rest)) : W p l e R s m args below meth c H locs cells slots Q (F0 m pc ls st0) :=
  va_callv hr hS (fun q _ h => pn_NA hS hA q h) (pn_NA hS hA) (fun u t H1 locs1 ht hvm hw hB hz1 hk1 hS1 => kk H1 locs1 hw (pn_pk hP hk1) hS1)
/-- a call that only reads, or throws -/
theorem pn_xi {post : Int32 → Prop} {XE : String → Prop} (hr : vx_Run p l e R s m args below meth c H locs cells slots mc ms (F0 m pc ls st0) rest (va_Qi (fun r (_ : Unit) => post r) (fun _ _ => True) (pn_N H.size) a) (vx_X (fun _ : Unit => True) (fun E _ _ => XE E) (pn_N H.size)) (pn_N H.size)) (hS : va_S A0 H0 H locs) (hA : ∀ q, H0.size ≤ q → A0 q) (hP : va_P D cl ws H)
    (kx : ∀ (E : String) (ce : Cell) (q9 : Addr) (H1 : Heap) (locs1 : List Loc), XE E → va_P D cl ws H1 → va_S A0 H0 H1 locs1 → H1[q9]? = some ce → ce.vm = .none → s.vm.findClass E = some ce.cls → vx_W p l e R s m args below meth c H1 locs1 (cells + mc) (slots + ms) Q (F0 m pc ls rest) q9)
    (kk : ∀ (r : Int32) (H1 : Heap) (locs1 : List Loc), post r → va_P D cl ws H1 → va_S A0 H0 H1 locs1 → W p l e R s m args below meth c H1 locs1 (cells + mc) (slots + ms) Q (F0 m (pc + 3) ls (.int r :: rest))) : W p l e R s m args below meth c H locs cells slots Q (F0 m pc ls st0) :=
  vx_calli hr hS (fun q _ h => pn_NA hS hA q h) (pn_NA hS hA) (fun q _ h => pn_NA hS hA q h) (fun E ce q9 u t H1 locs1 ht hvm hp hB hz1 hk1 hS1 h1 h2 h3 => kx E ce q9 H1 locs1 hB (pn_pk hP hk1) hS1 h1 h2 h3) (fun r u t H1 locs1 ht hvm hw hB hz1 hk1 hS1 => kk r H1 locs1 hw (pn_pk hP hk1) hS1)
theorem pn_xv {post : Prop} {XE : String → Prop} (hr : vx_Run p l e R s m args below meth c H locs cells slots mc ms (F0 m pc ls st0) rest (va_Qv (fun (_ : Unit) => post) (fun _ _ => True) (pn_N H.size) a) (vx_X (fun _ : Unit => True) (fun E _ _ => XE E) (pn_N H.size)) (pn_N H.size)) (hS : va_S A0 H0 H locs) (hA : ∀ q, H0.size ≤ q → A0 q) (hP : va_P D cl ws H)
    (kx : ∀ (E : String) (ce : Cell) (q9 : Addr) (H1 : Heap) (locs1 : List Loc), XE E → va_P D cl ws H1 → va_S A0 H0 H1 locs1 → H1[q9]? = some ce → ce.vm = .none → s.vm.findClass E = some ce.cls → vx_W p l e R s m args below meth c H1 locs1 (cells + mc) (slots + ms) Q (F0 m pc ls rest) q9)
    (kk : ∀ (H1 : Heap) (locs1 : List Loc), post → va_P D cl ws H1 → va_S A0 H0 H1 locs1 → W p l e R s m args below meth c H1 locs1 (cells + mc) (slots + ms) Q (F0 m (pc + 3) ls rest)) : W p l e R s m args below meth c H locs cells slots Q (F0 m pc ls st0) :=
  vx_callv hr hS (fun q _ h => pn_NA hS hA q h) (pn_NA hS hA) (fun q _ h => pn_NA hS hA q h) (fun E ce q9 u t H1 locs1 ht hvm hp hB hz1 hk1 hS1 h1 h2 h3 => kx E ce q9 H1 locs1 hB (pn_pk hP hk1) hS1 h1 h2 h3) (fun u t H1 locs1 ht hvm hw hB hz1 hk1 hS1 => kk H1 locs1 hw (pn_pk hP hk1) hS1)
variable {wr wc : va_W}
/-- a call that writes its world wc and leaves w1 u there; the rest wr stays -/
theorem pn_mi {S : Type} {w1 : S → va_W} {post : Int32 → S → Prop} (isC isR : List Nat) (hr : va_Run p l e R s m args below meth c H locs cells slots mc ms (F0 m pc ls st0) rest (va_Qi post (fun u t => va_P D cl (w1 u) t.heap ∧ va_D (va_A wc H.size) (w1 u)) (va_A wc H.size) a) (va_A wc H.size)) (hS : va_S A0 H0 H locs) (hA : ∀ q, H0.size ≤ q → A0 q) (hP : va_P D cl ws H) (hD : va_D A0 ws) (hC : isC.map (fun i => ws[i]?) = wc.map some) (hR : isR.map (fun i => ws[i]?) = wr.map some) (hn : va_nd isR = true) (hdis : ∀ i ∈ isR, i ∉ isC)
    (kk : ∀ (r : Int32) (u : S) (H1 : Heap) (locs1 : List Loc), post r u → va_P D cl (wr ++ w1 u) H1 → va_D A0 (wr ++ w1 u) → va_S A0 H0 H1 locs1 → W p l e R s m args below meth c H1 locs1 (cells + mc) (slots + ms) Q (F0 m (pc + 3) ls (.int r :: rest))) : W p l e R s m args below meth c H locs cells slots Q (F0 m pc ls st0) := by
  have hF := va_free (wc := wc) hD hS hA isC hC
  refine va_calli hr hS (fun q _ h => hF q h) hF (fun r u t H1 locs1 ht hvm hw hB hz1 hk1 hS1 => ?_)
  obtain ⟨hP1, hD1⟩ := hB
  rw [ht] at hP1
  obtain ⟨hP2, hD2⟩ := va_join (wr := wr) (w1 := w1 u) hP hD isC isR hC hR hn hdis hk1 hF hP1 hD1
  exact kk r u H1 locs1 hw hP2 hD2 hS1
theorem pn_mv {S : Type} {w1 : S → va_W} {post : S → Prop} (isC isR : List Nat) (hr : va_Run p l e R s m args below meth c H locs cells slots mc ms (F0 m pc ls st0) rest (va_Qv post (fun u t => va_P D cl (w1 u) t.heap ∧ va_D (va_A wc H.size) (w1 u)) (va_A wc H.size) a) (va_A wc H.size)) (hS : va_S A0 H0 H locs) (hA : ∀ q, H0.size ≤ q → A0 q) (hP : va_P D cl ws H) (hD : va_D A0 ws) (hC : isC.map (fun i => ws[i]?) = wc.map some) (hR : isR.map (fun i => ws[i]?) = wr.map some) (hn : va_nd isR = true) (hdis : ∀ i ∈ isR, i ∉ isC)
    (kk : ∀ (u : S) (H1 : Heap) (locs1 : List Loc), post u → va_P D cl (wr ++ w1 u) H1 → va_D A0 (wr ++ w1 u) → va_S A0 H0 H1 locs1 → W p l e R s m args below meth c H1 locs1 (cells + mc) (slots + ms) Q (F0 m (pc + 3) ls rest)) : W p l e R s m args below meth c H locs cells slots Q (F0 m pc ls st0) := by
  have hF := va_free (wc := wc) hD hS hA isC hC
  refine va_callv hr hS (fun q _ h => hF q h) hF (fun u t H1 locs1 ht hvm hw hB hz1 hk1 hS1 => ?_)
  obtain ⟨hP1, hD1⟩ := hB
  rw [ht] at hP1
  obtain ⟨hP2, hD2⟩ := va_join (wr := wr) (w1 := w1 u) hP hD isC isR hC hR hn hdis hk1 hF hP1 hD1
  exact kk u H1 locs1 hw hP2 hD2 hS1
theorem pn_ml {S : Type} {w1 : S → va_W} {post : Int64 → S → Prop} (isC isR : List Nat) (hr : va_Run p l e R s m args below meth c H locs cells slots mc ms (F0 m pc ls st0) rest (va_Ql post (fun u t => va_P D cl (w1 u) t.heap ∧ va_D (va_A wc H.size) (w1 u)) (va_A wc H.size) a) (va_A wc H.size)) (hS : va_S A0 H0 H locs) (hA : ∀ q, H0.size ≤ q → A0 q) (hP : va_P D cl ws H) (hD : va_D A0 ws) (hC : isC.map (fun i => ws[i]?) = wc.map some) (hR : isR.map (fun i => ws[i]?) = wr.map some) (hn : va_nd isR = true) (hdis : ∀ i ∈ isR, i ∉ isC)
    (kk : ∀ (r : Int64) (u : S) (H1 : Heap) (locs1 : List Loc), post r u → va_P D cl (wr ++ w1 u) H1 → va_D A0 (wr ++ w1 u) → va_S A0 H0 H1 locs1 → W p l e R s m args below meth c H1 locs1 (cells + mc) (slots + ms) Q (F0 m (pc + 3) ls (.long r :: rest))) : W p l e R s m args below meth c H locs cells slots Q (F0 m pc ls st0) := by
  have hF := va_free (wc := wc) hD hS hA isC hC
  refine va_calll hr hS (fun q _ h => hF q h) hF (fun r u t H1 locs1 ht hvm hw hB hz1 hk1 hS1 => ?_)
  obtain ⟨hP1, hD1⟩ := hB
  rw [ht] at hP1
  obtain ⟨hP2, hD2⟩ := va_join (wr := wr) (w1 := w1 u) hP hD isC isR hC hR hn hdis hk1 hF hP1 hD1
  exact kk r u H1 locs1 hw hP2 hD2 hS1
theorem pn_md {S : Type} {w1 : S → va_W} {post : UInt64 → S → Prop} (isC isR : List Nat) (hr : va_Run p l e R s m args below meth c H locs cells slots mc ms (F0 m pc ls st0) rest (va_Qd post (fun u t => va_P D cl (w1 u) t.heap ∧ va_D (va_A wc H.size) (w1 u)) (va_A wc H.size) a) (va_A wc H.size)) (hS : va_S A0 H0 H locs) (hA : ∀ q, H0.size ≤ q → A0 q) (hP : va_P D cl ws H) (hD : va_D A0 ws) (hC : isC.map (fun i => ws[i]?) = wc.map some) (hR : isR.map (fun i => ws[i]?) = wr.map some) (hn : va_nd isR = true) (hdis : ∀ i ∈ isR, i ∉ isC)
    (kk : ∀ (r : UInt64) (u : S) (H1 : Heap) (locs1 : List Loc), post r u → va_P D cl (wr ++ w1 u) H1 → va_D A0 (wr ++ w1 u) → va_S A0 H0 H1 locs1 → W p l e R s m args below meth c H1 locs1 (cells + mc) (slots + ms) Q (F0 m (pc + 3) ls (.double r :: rest))) : W p l e R s m args below meth c H locs cells slots Q (F0 m pc ls st0) := by
  have hF := va_free (wc := wc) hD hS hA isC hC
  refine va_calld hr hS (fun q _ h => hF q h) hF (fun r u t H1 locs1 ht hvm hw hB hz1 hk1 hS1 => ?_)
  obtain ⟨hP1, hD1⟩ := hB
  rw [ht] at hP1
  obtain ⟨hP2, hD2⟩ := va_join (wr := wr) (w1 := w1 u) hP hD isC isR hC hR hn hdis hk1 hF hP1 hD1
  exact kk r u H1 locs1 hw hP2 hD2 hS1
theorem pn_mr {S : Type} {w1 : S → Nat → va_W} {post : S → Prop} (isC isR : List Nat) (hr : va_Run p l e R s m args below meth c H locs cells slots mc ms (F0 m pc ls st0) rest (va_Qr post (fun u z t => va_P D cl (w1 u z) t.heap ∧ va_D (va_A wc H.size) (w1 u z)) (va_A wc H.size) a) (va_A wc H.size)) (hS : va_S A0 H0 H locs) (hA : ∀ q, H0.size ≤ q → A0 q) (hP : va_P D cl ws H) (hD : va_D A0 ws) (hC : isC.map (fun i => ws[i]?) = wc.map some) (hR : isR.map (fun i => ws[i]?) = wr.map some) (hn : va_nd isR = true) (hdis : ∀ i ∈ isR, i ∉ isC)
    (kk : ∀ (u : S) (z : Nat) (H1 : Heap) (locs1 : List Loc), post u → va_P D cl (wr ++ w1 u z) H1 → va_D A0 (wr ++ w1 u z) → va_S A0 H0 H1 locs1 → W p l e R s m args below meth c H1 locs1 (cells + mc) (slots + ms) Q (F0 m (pc + 3) ls (.ref z :: rest))) : W p l e R s m args below meth c H locs cells slots Q (F0 m pc ls st0) := by
  have hF := va_free (wc := wc) hD hS hA isC hC
  refine va_callr hr hS (fun q _ h => hF q h) hF (fun u z t H1 locs1 ht hvm hw hB hz1 hk1 hS1 => ?_)
  obtain ⟨hP1, hD1⟩ := hB
  rw [ht] at hP1
  obtain ⟨hP2, hD2⟩ := va_join (wr := wr) (w1 := w1 u z) hP hD isC isR hC hR hn hdis hk1 hF hP1 hD1
  exact kk u z H1 locs1 hw hP2 hD2 hS1
/-- a call that writes its world wc, of which nothing is told, or throws; the rest wr stays -/
theorem pn_xm {post : Int32 → Prop} {XE : String → Prop} (isC isR : List Nat) (hr : vx_Run p l e R s m args below meth c H locs cells slots mc ms (F0 m pc ls st0) rest (va_Qi (fun r (_ : Unit) => post r) (fun _ _ => True) (va_A wc H.size) a) (vx_X (fun _ : Unit => True) (fun E _ _ => XE E) (va_A wc H.size)) (va_A wc H.size)) (hS : va_S A0 H0 H locs) (hA : ∀ q, H0.size ≤ q → A0 q) (hP : va_P D cl ws H) (hD : va_D A0 ws) (hC : isC.map (fun i => ws[i]?) = wc.map some) (hR : isR.map (fun i => ws[i]?) = wr.map some) (hn : va_nd isR = true) (hdis : ∀ i ∈ isR, i ∉ isC)
    (kx : ∀ (E : String) (ce : Cell) (q9 : Addr) (H1 : Heap) (locs1 : List Loc), XE E → va_P D cl wr H1 → va_D A0 wr → va_S A0 H0 H1 locs1 → H1[q9]? = some ce → ce.vm = .none → s.vm.findClass E = some ce.cls → vx_W p l e R s m args below meth c H1 locs1 (cells + mc) (slots + ms) Q (F0 m pc ls rest) q9)
    (kk : ∀ (r : Int32) (H1 : Heap) (locs1 : List Loc), post r → va_P D cl wr H1 → va_D A0 wr → va_S A0 H0 H1 locs1 → W p l e R s m args below meth c H1 locs1 (cells + mc) (slots + ms) Q (F0 m (pc + 3) ls (.int r :: rest))) : W p l e R s m args below meth c H locs cells slots Q (F0 m pc ls st0) := by
  have hF := va_free (wc := wc) hD hS hA isC hC
  have key : ∀ H1 : Heap, (∀ q : Nat, q < H.size → ¬ va_A wc H.size q → H1[q]? = H[q]?) → va_P D cl wr H1 ∧ va_D A0 wr := by
    intro H1 hk1
    have h9 := va_join (wr := wr) (w1 := []) (H1 := H1) hP hD isC isR hC hR hn hdis hk1 hF (fun k q h => by simp at h) ⟨fun i j p q h => by simp at h, fun k q h => by simp at h⟩
    rw [List.append_nil] at h9
    exact h9
  refine vx_calli hr hS (fun q _ h => hF q h) hF (fun q _ h => hF q h) (fun E ce q9 u t H1 locs1 ht hvm hp hB hz1 hk1 hS1 h1 h2 h3 => kx E ce q9 H1 locs1 hB (key H1 hk1).1 (key H1 hk1).2 hS1 h1 h2 h3) (fun r u t H1 locs1 ht hvm hw hB hz1 hk1 hS1 => kk r H1 locs1 hw (key H1 hk1).1 (key H1 hk1).2 hS1)
/-- thrown by a callee, not caught here -/
theorem pn_out {XE' : String → Prop} {A : Nat → Prop} {E : String} {ce : Cell} {q9 : Addr} {Qc : Array Value → State → Outcome → State → Prop} (hout : ∀ x ∈ c.exceptionTable.toList, False) (hlocks : meth.locks = false) (hS : va_S A s.heap H locs) (hE : XE' E) (h1 : H[q9]? = some ce) (h2 : ce.vm = .none) (h3 : s.vm.findClass E = some ce.cls) (hc : cells ≤ mc) (hs : slots ≤ ms) :
    vx_W p l e R s m args below meth c H locs cells slots (vx_MQ below Qc (vx_X (fun _ : Unit => True) (fun E _ _ => XE' E) A) args s mc ms A) (F0 m pc ls rest) q9 :=
  vx_out (fun x hx => (hout x hx).elim) hlocks h1 h2 h3 (fun t ht _ => ⟨(), trivial, hE, hS.F ht⟩) hS.2.2 hc hs
end PNC
theorem pn_hb1 : ∀ w ∈ (vx_atS RX4 49 "java/lang/IllegalArgumentException" ["java/lang/RuntimeException", "java/lang/Exception"]).filter (fun w => !goodWord w), w ∈ pn_ws := by decide +kernel
theorem pn_hb2 : ∀ w ∈ (vx_atS RX4 100 "java/lang/IllegalStateException" ["java/lang/RuntimeException", "java/lang/Exception"]).filter (fun w => !goodWord w), w ∈ pn_ws := by decide +kernel
theorem pn_hb3 : ∀ w ∈ (vx_atS RX4 124 "java/lang/IndexOutOfBoundsException" ["java/lang/RuntimeException", "java/lang/Exception"]).filter (fun w => !goodWord w), w ∈ pn_ws := by decide +kernel
theorem pn_on : ∀ w ∈ pn_ws, w.onTables = true := by decide +kernel
theorem pn_hg1 : ∀ w ∈ Cond.classLink RX4 45 "java/lang/IllegalArgumentException" :: Cond.initialized "java/lang/IllegalArgumentException" :: vx_atS RX4 49 "java/lang/IllegalArgumentException" ["java/lang/RuntimeException", "java/lang/Exception"], vx_ot w = true := by decide +kernel
theorem pn_hg2 : ∀ w ∈ Cond.classLink RX4 96 "java/lang/IllegalStateException" :: Cond.initialized "java/lang/IllegalStateException" :: vx_atS RX4 100 "java/lang/IllegalStateException" ["java/lang/RuntimeException", "java/lang/Exception"], vx_ot w = true := by decide +kernel
theorem pn_hg3 : ∀ w ∈ Cond.classLink RX4 120 "java/lang/IndexOutOfBoundsException" :: Cond.initialized "java/lang/IndexOutOfBoundsException" :: vx_atS RX4 124 "java/lang/IndexOutOfBoundsException" ["java/lang/RuntimeException", "java/lang/Exception"], vx_ot w = true := by decide +kernel
theorem pn_hat {args : Array Value} {s : State} {Ts L : List Cond} (hts : ∀ w ∈ Ts, w.before args s = true) (hin : ∀ w ∈ L.filter goodWord, w ∈ Ts) (hb : ∀ w ∈ L.filter (fun w => !goodWord w), w ∈ pn_ws) (hT : pn_T s) : ∀ w ∈ L, w.before args s = true :=
  vx_hat (fun w hw => hts w (hin w hw)) hb (fun w hw => va_Nw.use (pn_on w hw) (hT.1 w hw))
theorem pn_fit : Bundle.fit "java/lang/IllegalArgumentException" = true ∧ Bundle.fit "java/lang/IllegalStateException" = true ∧ Bundle.fit "java/lang/IndexOutOfBoundsException" = true ∧ ∀ n ∈ ["java/lang/RuntimeException", "java/lang/Exception"], Bundle.fit n = true := by decide +kernel
theorem pn_xF {A : Nat → Prop} {s t : State} {H : Heap} {locs : List Loc} (hS : va_S A s.heap H locs) (h1 : H.size ≤ t.heap.size) (h2 : ∀ q : Nat, q < H.size → t.heap[q]? = H[q]?) : va_F A s t :=
  ⟨Nat.le_trans hS.1 h1, fun q h3 h4 => (h2 q (Nat.lt_of_lt_of_le h3 hS.1)).trans (hS.2.1 q h3 h4)⟩
/-- plain numbers -/
theorem pn_lt (a b : Int32) : a < b ↔ a.toInt < b.toInt := Int32.lt_iff_toInt_lt
theorem pn_le (a b : Int32) : a ≤ b ↔ a.toInt ≤ b.toInt := Int32.le_iff_toInt_le
theorem pn_eq (a b : Int32) : a = b ↔ a.toInt = b.toInt := Int32.toInt_inj.symm
abbrev pn_Y (cI cZ cJ cG : ClassId) : List (ClassId × FieldType) := [(cI, .int), (cZ, .boolean), (cJ, .long), (cG, .array .int)]
theorem pn_sameI {D : va_G} {cl : List vw_C} {cI cZ cJ cG cA : ClassId} {s : State} (h : va_K D cl (pn_Y cI cZ cJ cG ++ [(cA, .int)]) s) : cI = cA := by
  have h1 : s.vm.findClass ("[" ++ FieldType.int.toString) = some cI := (h.2 0 (cI, .int) rfl).2
  have h2 : s.vm.findClass ("[" ++ FieldType.int.toString) = some cA := (h.2 4 (cA, .int) rfl).2
  exact Option.some.inj (h1.symm.trans h2)
theorem pn_sameZ {D : va_G} {cl : List vw_C} {cI cZ cJ cG cA : ClassId} {s : State} (h : va_K D cl (pn_Y cI cZ cJ cG ++ [(cA, .boolean)]) s) : cZ = cA := by
  have h1 : s.vm.findClass ("[" ++ FieldType.boolean.toString) = some cZ := (h.2 1 (cZ, .boolean) rfl).2
  have h2 : s.vm.findClass ("[" ++ FieldType.boolean.toString) = some cA := (h.2 4 (cA, .boolean) rfl).2
  exact Option.some.inj (h1.symm.trans h2)
theorem pn_sameJ {D : va_G} {cl : List vw_C} {cI cZ cJ cG cA : ClassId} {s : State} (h : va_K D cl (pn_Y cI cZ cJ cG ++ [(cA, .long)]) s) : cJ = cA := by
  have h1 : s.vm.findClass ("[" ++ FieldType.long.toString) = some cJ := (h.2 2 (cJ, .long) rfl).2
  have h2 : s.vm.findClass ("[" ++ FieldType.long.toString) = some cA := (h.2 4 (cA, .long) rfl).2
  exact Option.some.inj (h1.symm.trans h2)
theorem pn_cpyz {a b n : Nat} : va_cpy (fun _ => (0 : Int32)) (fun _ => 0) a b n = fun _ => 0 := by
  funext k
  simp [va_cpy]
theorem pn_setself {ws : va_W} {k : Nat} {q : Nat × va_E} (h : ws[k]? = some q) : ws.set k q = ws := by
  apply List.ext_getElem?
  intro i
  by_cases hi : k = i
  · subst hi
    rw [List.getElem?_set_self (by rw [List.getElem?_eq_some_iff] at h; exact h.1), h]
  · rw [List.getElem?_set_ne hi]
section PNZ
variable {p : Program} {l : Launch} {e : Env} {R : Room} {s : State} {m : MethodId} {args : Array Value} {below : List Frame} {meth : Method} {c : Code} {H : Heap} {locs : List Loc} {cells slots : Nat} {Q : State → Prop}
variable {cc : ByteArray} {pc : Nat} {ls : Array Slot} {rest : List Value} {D : va_G} {cl : List vw_C} {A : Nat → Prop} {a : Nat} {tys : List (ClassId × FieldType)} {ws : va_W} {H0 : Heap}
/-- System.arraycopy of noughts over noughts -/
theorem pn_copyz (hexec : p.tables.exec = Jvm.exec) (hb : c.code = cc) (hml : c.maxLocals = ls.size) {own : String} {index : Nat} (hown : s.vm.findClass own = some m.cls) (hlink : (Cond.methodLink own index arraycopyName).before args s = true) (hnat : (Cond.native arraycopyName).before args s = true) (hstat : (Cond.static arraycopyName).before args s = true) (hini : (Cond.initialized "java/lang/System").before args s = true)
    (hK : va_K D cl tys s) (hP : va_P D cl ws H) (hD : va_D A ws) (hS : va_S A H0 H locs) (q0 q1 t0 : Nat) {a0 : Nat} {c1 : ClassId} {n0 n1 : Nat} {ty : FieldType} (ha0 : ws[q0]? = some (a0, .inl (c1, n0, .inl (fun _ => 0)))) (ha1 : ws[q1]? = some (a, .inl (c1, n1, .inl (fun _ => 0)))) (ht0 : tys[t0]? = some (c1, ty)) (hprim : refKind ty = false) (hz : fits ty (.int 0) = true)
    {n : Int32} (h3 : ¬ n < 0) (h4 : n.toNatClampNeg ≤ n0) (h5 : n.toNatClampNeg ≤ n1)
    (hframes : 1 ≤ R.frames) (hlocals : (rest.map fun v => v.category).sum + 18 ≤ R.locals) (hdg : decode cc pc = .ok (.invokestatic index, 3))
    (kk : ∀ (H1 : Heap) (locs1 : List Loc), va_P D cl ws H1 → va_D A ws → va_S A H0 H1 locs1 → W p l e R s m args below meth c H1 locs1 cells slots Q (F0 m (pc + 3) ls rest)) : W p l e R s m args below meth c H locs cells slots Q (F0 m pc ls (.int n :: .int 0 :: .ref a :: .int 0 :: .ref a0 :: rest)) := by
  have e0 : (0 : Int32).toNatClampNeg = 0 := by decide
  refine va_copyi hexec hb hml hown hlink hnat hstat hini hK hP hD hS q0 q1 t0 t0 ha0 ha1 ht0 ht0 hprim (by decide) (by decide) h3 (by rw [e0, Nat.zero_add]; exact h4) (by rw [e0, Nat.zero_add]; exact h5) (fun i _ => hz) hframes hlocals hdg (fun H1 locs1 hP1 hD1 hS1 => ?_)
  rw [pn_cpyz, pn_setself ha1] at hP1 hD1
  exact kk H1 locs1 hP1 hD1 hS1
end PNZ
end
section
theorem dX4_checkInterfaces_0 : decode cX4_checkInterfaces 0 = .ok (.iload_n 0, 1) := by decide +kernel
theorem dX4_checkInterfaces_1 : decode cX4_checkInterfaces 1 = .ok (.ifCond .lt 10, 3) := by decide +kernel
theorem dX4_checkInterfaces_4 : decode cX4_checkInterfaces 4 = .ok (.iload_n 0, 1) := by decide +kernel
theorem dX4_checkInterfaces_5 : decode cX4_checkInterfaces 5 = .ok (.sipush 4096, 3) := by decide +kernel
theorem dX4_checkInterfaces_8 : decode cX4_checkInterfaces 8 = .ok (.if_icmp .lt 14, 3) := by decide +kernel
theorem dX4_checkInterfaces_11 : decode cX4_checkInterfaces 11 = .ok (.new 45, 3) := by decide +kernel
theorem dX4_checkInterfaces_14 : decode cX4_checkInterfaces 14 = .ok (.dup, 1) := by decide +kernel
theorem dX4_checkInterfaces_15 : decode cX4_checkInterfaces 15 = .ok (.ldc_w 272, 3) := by decide +kernel
theorem dX4_checkInterfaces_18 : decode cX4_checkInterfaces 18 = .ok (.invokespecial 49, 3) := by decide +kernel
theorem dX4_checkInterfaces_21 : decode cX4_checkInterfaces 21 = .ok (.athrow, 1) := by decide +kernel
theorem dX4_checkInterfaces_22 : decode cX4_checkInterfaces 22 = .ok (.return_, 1) := by decide +kernel
theorem dX4_checkNumber_0 : decode cX4_checkNumber 0 = .ok (.iload_n 0, 1) := by decide +kernel
theorem dX4_checkNumber_1 : decode cX4_checkNumber 1 = .ok (.invokestatic 290, 3) := by decide +kernel
theorem dX4_checkNumber_4 : decode cX4_checkNumber 4 = .ok (.ifCond .ne 14, 3) := by decide +kernel
theorem dX4_checkNumber_7 : decode cX4_checkNumber 7 = .ok (.new 120, 3) := by decide +kernel
theorem dX4_checkNumber_10 : decode cX4_checkNumber 10 = .ok (.dup, 1) := by decide +kernel
theorem dX4_checkNumber_11 : decode cX4_checkNumber 11 = .ok (.ldc_w 293, 3) := by decide +kernel
theorem dX4_checkNumber_14 : decode cX4_checkNumber 14 = .ok (.invokespecial 124, 3) := by decide +kernel
theorem dX4_checkNumber_17 : decode cX4_checkNumber 17 = .ok (.athrow, 1) := by decide +kernel
theorem dX4_checkNumber_18 : decode cX4_checkNumber 18 = .ok (.return_, 1) := by decide +kernel
theorem dX4_checkNumberAndName_0 : decode cX4_checkNumberAndName 0 = .ok (.iload_n 0, 1) := by decide +kernel
theorem dX4_checkNumberAndName_1 : decode cX4_checkNumberAndName 1 = .ok (.invokestatic 131, 3) := by decide +kernel
theorem dX4_checkNumberAndName_4 : decode cX4_checkNumberAndName 4 = .ok (.iload_n 1, 1) := by decide +kernel
theorem dX4_checkNumberAndName_5 : decode cX4_checkNumberAndName 5 = .ok (.invokestatic 295, 3) := by decide +kernel
theorem dX4_checkNumberAndName_8 : decode cX4_checkNumberAndName 8 = .ok (.ifCond .ne 14, 3) := by decide +kernel
theorem dX4_checkNumberAndName_11 : decode cX4_checkNumberAndName 11 = .ok (.new 120, 3) := by decide +kernel
theorem dX4_checkNumberAndName_14 : decode cX4_checkNumberAndName 14 = .ok (.dup, 1) := by decide +kernel
theorem dX4_checkNumberAndName_15 : decode cX4_checkNumberAndName 15 = .ok (.ldc_w 298, 3) := by decide +kernel
theorem dX4_checkNumberAndName_18 : decode cX4_checkNumberAndName 18 = .ok (.invokespecial 124, 3) := by decide +kernel
theorem dX4_checkNumberAndName_21 : decode cX4_checkNumberAndName 21 = .ok (.athrow, 1) := by decide +kernel
theorem dX4_checkNumberAndName_22 : decode cX4_checkNumberAndName 22 = .ok (.return_, 1) := by decide +kernel
theorem dX4_isCalledName_0 : decode cX4_isCalledName 0 = .ok (.iload_n 0, 1) := by decide +kernel
theorem dX4_isCalledName_1 : decode cX4_isCalledName 1 = .ok (.iconst 1, 1) := by decide +kernel
theorem dX4_isCalledName_2 : decode cX4_isCalledName 2 = .ok (.if_icmp .lt 13, 3) := by decide +kernel
theorem dX4_isCalledName_5 : decode cX4_isCalledName 5 = .ok (.iload_n 0, 1) := by decide +kernel
theorem dX4_isCalledName_6 : decode cX4_isCalledName 6 = .ok (.bipush 6, 2) := by decide +kernel
theorem dX4_isCalledName_8 : decode cX4_isCalledName 8 = .ok (.if_icmp .ge 7, 3) := by decide +kernel
theorem dX4_isCalledName_11 : decode cX4_isCalledName 11 = .ok (.iconst 1, 1) := by decide +kernel
theorem dX4_isCalledName_12 : decode cX4_isCalledName 12 = .ok (.goto 4, 3) := by decide +kernel
theorem dX4_isCalledName_15 : decode cX4_isCalledName 15 = .ok (.iconst 0, 1) := by decide +kernel
theorem dX4_isCalledName_16 : decode cX4_isCalledName 16 = .ok (.ireturn, 1) := by decide +kernel
theorem dX4_isField_0 : decode cX4_isField 0 = .ok (.iload_n 0, 1) := by decide +kernel
theorem dX4_isField_1 : decode cX4_isField 1 = .ok (.ifCond .lt 12, 3) := by decide +kernel
theorem dX4_isField_4 : decode cX4_isField 4 = .ok (.iload_n 0, 1) := by decide +kernel
theorem dX4_isField_5 : decode cX4_isField 5 = .ok (.iconst 4, 1) := by decide +kernel
theorem dX4_isField_6 : decode cX4_isField 6 = .ok (.if_icmp .ge 7, 3) := by decide +kernel
theorem dX4_isField_9 : decode cX4_isField 9 = .ok (.iconst 1, 1) := by decide +kernel
theorem dX4_isField_10 : decode cX4_isField 10 = .ok (.goto 4, 3) := by decide +kernel
theorem dX4_isField_13 : decode cX4_isField 13 = .ok (.iconst 0, 1) := by decide +kernel
theorem dX4_isField_14 : decode cX4_isField 14 = .ok (.ireturn, 1) := by decide +kernel
theorem dX4_isNumber_0 : decode cX4_isNumber 0 = .ok (.iload_n 0, 1) := by decide +kernel
theorem dX4_isNumber_1 : decode cX4_isNumber 1 = .ok (.ifCond .lt 13, 3) := by decide +kernel
theorem dX4_isNumber_4 : decode cX4_isNumber 4 = .ok (.iload_n 0, 1) := by decide +kernel
theorem dX4_isNumber_5 : decode cX4_isNumber 5 = .ok (.bipush 12, 2) := by decide +kernel
theorem dX4_isNumber_7 : decode cX4_isNumber 7 = .ok (.if_icmp .ge 7, 3) := by decide +kernel
theorem dX4_isNumber_10 : decode cX4_isNumber 10 = .ok (.iconst 1, 1) := by decide +kernel
theorem dX4_isNumber_11 : decode cX4_isNumber 11 = .ok (.goto 4, 3) := by decide +kernel
theorem dX4_isNumber_14 : decode cX4_isNumber 14 = .ok (.iconst 0, 1) := by decide +kernel
theorem dX4_isNumber_15 : decode cX4_isNumber 15 = .ok (.ireturn, 1) := by decide +kernel
set_option maxHeartbeats 4000000 in
set_option maxRecDepth 100000 in
theorem c_X4_isNumber (l : Launch) (D : va_G) (cI cZ cJ cG : ClassId) (sz : Nat) (p0 : Int32) : Met l yX4_isNumber (pl_h yX4_isNumber cX4_isNumber 1 (some .boolean)) ({ frames := 0, cells := 0, slots := 0, locals := 0 }) (va_Pc [.int p0] (pn_B D (pn_Y cI cZ cJ cG) [] sz)) (va_Qi (fun (r : Int32) (u : Unit) => (r = 1 ∧ 0 ≤ p0.toInt ∧ p0.toInt ≤ 11) ∨ (r = 0 ∧ (p0.toInt < 0 ∨ 11 < p0.toInt))) (fun _ _ => True) (pn_N sz)) 0 0 (pn_N sz) := by
  refine Met.ofW (cc := cX4_isNumber) (maxL := 1) (ret := (some .boolean)) (by decide) rfl ?_
  intro p e s m args below meth c s₁ B hml hv
  obtain ⟨rfl, hsz, hP, hK⟩ := hv
  have hx := B.exec
  have hb := B.bytes
  have hr := B.returns
  have hts0 := atoms_spec (ws := pl_h yX4_isNumber cX4_isNumber 1 (some .boolean)) B.pre
  have hts := fun (w : Cond) (h : w ∈ pw_all) => hts0 w (List.mem_cons_of_mem _ h)
  have hown : s.vm.findClass RX4 = some m.cls := findClass_of_methodNamed B.named
  have hlocks := B.notSynchronized
  subst hsz
  have hA : ∀ q : Nat, s.heap.size ≤ q → pn_N s.heap.size q := fun q h => h
  have hS : va_S (pn_N s.heap.size) s.heap s.heap [] := va_S.rf
  have hl := lv_entry ([.int p0]) (n := 1) (Nat.le_of_ble_eq_true rfl)
  rw [lg_entry_eq]
  generalize (lg_sl ([.int p0]) ++ List.replicate (1 - (lg_sl ([.int p0])).length) Slot.unset).toArray = ls at hl ⊢
  have hl : lv_has ls 1 [(0, .int p0)] := hl
  refine lv_iload_n hx hb dX4_isNumber_0 rfl (lv_at hl 0 rfl) ?_
  refine lv_if_lt (tgt := 14) hx hb dX4_isNumber_1 (by decide) (fun c_1 => ?_) (fun c_1 => ?_)
  · simp only [pn_lt, pn_le, pn_eq, Int32.reduceToInt] at c_1
    refine lv_iconst (v := 0) hx hb dX4_isNumber_14 (by decide) ?_
    exact W.zret (v := 0) (ty := .boolean) hx hb hr (by decide) (fun tz_ ht hW => ⟨⟨0, (), rfl, (Or.inr ⟨rfl, (by first | exact trivial | omega | (simp only [Int32.reduceToInt] at *; omega) | decide)⟩), trivial⟩, hS.F ht⟩) hS.2.2 dX4_isNumber_15
  · simp only [pn_lt, pn_le, pn_eq, Int32.reduceToInt] at c_1
    refine lv_iload_n hx hb dX4_isNumber_4 rfl (lv_at hl 0 rfl) ?_
    refine lv_bipush (v := 12) hx hb dX4_isNumber_5 (by decide) ?_
    refine lv_icmp_ge (tgt := 14) hx hb dX4_isNumber_7 (by decide) (fun c_2 => ?_) (fun c_2 => ?_)
    · simp only [pn_lt, pn_le, pn_eq, Int32.reduceToInt] at c_2
      refine lv_iconst (v := 0) hx hb dX4_isNumber_14 (by decide) ?_
      exact W.zret (v := 0) (ty := .boolean) hx hb hr (by decide) (fun tz_ ht hW => ⟨⟨0, (), rfl, (Or.inr ⟨rfl, (by first | exact trivial | omega | (simp only [Int32.reduceToInt] at *; omega) | decide)⟩), trivial⟩, hS.F ht⟩) hS.2.2 dX4_isNumber_15
    · simp only [pn_lt, pn_le, pn_eq, Int32.reduceToInt] at c_2
      refine lv_iconst (v := 1) hx hb dX4_isNumber_10 (by decide) ?_
      refine lv_goto (tgt := 15) hx hb dX4_isNumber_11 (by decide) ?_
      exact W.zret (v := 1) (ty := .boolean) hx hb hr (by decide) (fun tz_ ht hW => ⟨⟨1, (), rfl, (Or.inl ⟨rfl, (by first | exact trivial | omega | (simp only [Int32.reduceToInt] at *; omega) | decide)⟩), trivial⟩, hS.F ht⟩) hS.2.2 dX4_isNumber_15
set_option maxHeartbeats 4000000 in
set_option maxRecDepth 100000 in
theorem c_X4_isCalledName (l : Launch) (D : va_G) (cI cZ cJ cG : ClassId) (sz : Nat) (p0 : Int32) : Met l yX4_isCalledName (pl_h yX4_isCalledName cX4_isCalledName 1 (some .boolean)) ({ frames := 0, cells := 0, slots := 0, locals := 0 }) (va_Pc [.int p0] (pn_B D (pn_Y cI cZ cJ cG) [] sz)) (va_Qi (fun (r : Int32) (u : Unit) => (r = 1 ∧ 1 ≤ p0.toInt ∧ p0.toInt ≤ 5) ∨ (r = 0 ∧ (p0.toInt < 1 ∨ 5 < p0.toInt))) (fun _ _ => True) (pn_N sz)) 0 0 (pn_N sz) := by
  refine Met.ofW (cc := cX4_isCalledName) (maxL := 1) (ret := (some .boolean)) (by decide) rfl ?_
  intro p e s m args below meth c s₁ B hml hv
  obtain ⟨rfl, hsz, hP, hK⟩ := hv
  have hx := B.exec
  have hb := B.bytes
  have hr := B.returns
  have hts0 := atoms_spec (ws := pl_h yX4_isCalledName cX4_isCalledName 1 (some .boolean)) B.pre
  have hts := fun (w : Cond) (h : w ∈ pw_all) => hts0 w (List.mem_cons_of_mem _ h)
  have hown : s.vm.findClass RX4 = some m.cls := findClass_of_methodNamed B.named
  have hlocks := B.notSynchronized
  subst hsz
  have hA : ∀ q : Nat, s.heap.size ≤ q → pn_N s.heap.size q := fun q h => h
  have hS : va_S (pn_N s.heap.size) s.heap s.heap [] := va_S.rf
  have hl := lv_entry ([.int p0]) (n := 1) (Nat.le_of_ble_eq_true rfl)
  rw [lg_entry_eq]
  generalize (lg_sl ([.int p0]) ++ List.replicate (1 - (lg_sl ([.int p0])).length) Slot.unset).toArray = ls at hl ⊢
  have hl : lv_has ls 1 [(0, .int p0)] := hl
  refine lv_iload_n hx hb dX4_isCalledName_0 rfl (lv_at hl 0 rfl) ?_
  refine lv_iconst (v := 1) hx hb dX4_isCalledName_1 (by decide) ?_
  refine lv_icmp_lt (tgt := 15) hx hb dX4_isCalledName_2 (by decide) (fun c_1 => ?_) (fun c_1 => ?_)
  · simp only [pn_lt, pn_le, pn_eq, Int32.reduceToInt] at c_1
    refine lv_iconst (v := 0) hx hb dX4_isCalledName_15 (by decide) ?_
    exact W.zret (v := 0) (ty := .boolean) hx hb hr (by decide) (fun tz_ ht hW => ⟨⟨0, (), rfl, (Or.inr ⟨rfl, (by first | exact trivial | omega | (simp only [Int32.reduceToInt] at *; omega) | decide)⟩), trivial⟩, hS.F ht⟩) hS.2.2 dX4_isCalledName_16
  · simp only [pn_lt, pn_le, pn_eq, Int32.reduceToInt] at c_1
    refine lv_iload_n hx hb dX4_isCalledName_5 rfl (lv_at hl 0 rfl) ?_
    refine lv_bipush (v := 6) hx hb dX4_isCalledName_6 (by decide) ?_
    refine lv_icmp_ge (tgt := 15) hx hb dX4_isCalledName_8 (by decide) (fun c_2 => ?_) (fun c_2 => ?_)
    · simp only [pn_lt, pn_le, pn_eq, Int32.reduceToInt] at c_2
      refine lv_iconst (v := 0) hx hb dX4_isCalledName_15 (by decide) ?_
      exact W.zret (v := 0) (ty := .boolean) hx hb hr (by decide) (fun tz_ ht hW => ⟨⟨0, (), rfl, (Or.inr ⟨rfl, (by first | exact trivial | omega | (simp only [Int32.reduceToInt] at *; omega) | decide)⟩), trivial⟩, hS.F ht⟩) hS.2.2 dX4_isCalledName_16
    · simp only [pn_lt, pn_le, pn_eq, Int32.reduceToInt] at c_2
      refine lv_iconst (v := 1) hx hb dX4_isCalledName_11 (by decide) ?_
      refine lv_goto (tgt := 16) hx hb dX4_isCalledName_12 (by decide) ?_
      exact W.zret (v := 1) (ty := .boolean) hx hb hr (by decide) (fun tz_ ht hW => ⟨⟨1, (), rfl, (Or.inl ⟨rfl, (by first | exact trivial | omega | (simp only [Int32.reduceToInt] at *; omega) | decide)⟩), trivial⟩, hS.F ht⟩) hS.2.2 dX4_isCalledName_16
set_option maxHeartbeats 4000000 in
set_option maxRecDepth 100000 in
theorem c_X4_isField (l : Launch) (D : va_G) (cI cZ cJ cG : ClassId) (sz : Nat) (p0 : Int32) : Met l yX4_isField (pl_h yX4_isField cX4_isField 1 (some .boolean)) ({ frames := 0, cells := 0, slots := 0, locals := 0 }) (va_Pc [.int p0] (pn_B D (pn_Y cI cZ cJ cG) [] sz)) (va_Qi (fun (r : Int32) (u : Unit) => (r = 1 ∧ 0 ≤ p0.toInt ∧ p0.toInt ≤ 3) ∨ (r = 0 ∧ (p0.toInt < 0 ∨ 3 < p0.toInt))) (fun _ _ => True) (pn_N sz)) 0 0 (pn_N sz) := by
  refine Met.ofW (cc := cX4_isField) (maxL := 1) (ret := (some .boolean)) (by decide) rfl ?_
  intro p e s m args below meth c s₁ B hml hv
  obtain ⟨rfl, hsz, hP, hK⟩ := hv
  have hx := B.exec
  have hb := B.bytes
  have hr := B.returns
  have hts0 := atoms_spec (ws := pl_h yX4_isField cX4_isField 1 (some .boolean)) B.pre
  have hts := fun (w : Cond) (h : w ∈ pw_all) => hts0 w (List.mem_cons_of_mem _ h)
  have hown : s.vm.findClass RX4 = some m.cls := findClass_of_methodNamed B.named
  have hlocks := B.notSynchronized
  subst hsz
  have hA : ∀ q : Nat, s.heap.size ≤ q → pn_N s.heap.size q := fun q h => h
  have hS : va_S (pn_N s.heap.size) s.heap s.heap [] := va_S.rf
  have hl := lv_entry ([.int p0]) (n := 1) (Nat.le_of_ble_eq_true rfl)
  rw [lg_entry_eq]
  generalize (lg_sl ([.int p0]) ++ List.replicate (1 - (lg_sl ([.int p0])).length) Slot.unset).toArray = ls at hl ⊢
  have hl : lv_has ls 1 [(0, .int p0)] := hl
  refine lv_iload_n hx hb dX4_isField_0 rfl (lv_at hl 0 rfl) ?_
  refine lv_if_lt (tgt := 13) hx hb dX4_isField_1 (by decide) (fun c_1 => ?_) (fun c_1 => ?_)
  · simp only [pn_lt, pn_le, pn_eq, Int32.reduceToInt] at c_1
    refine lv_iconst (v := 0) hx hb dX4_isField_13 (by decide) ?_
    exact W.zret (v := 0) (ty := .boolean) hx hb hr (by decide) (fun tz_ ht hW => ⟨⟨0, (), rfl, (Or.inr ⟨rfl, (by first | exact trivial | omega | (simp only [Int32.reduceToInt] at *; omega) | decide)⟩), trivial⟩, hS.F ht⟩) hS.2.2 dX4_isField_14
  · simp only [pn_lt, pn_le, pn_eq, Int32.reduceToInt] at c_1
    refine lv_iload_n hx hb dX4_isField_4 rfl (lv_at hl 0 rfl) ?_
    refine lv_iconst (v := 4) hx hb dX4_isField_5 (by decide) ?_
    refine lv_icmp_ge (tgt := 13) hx hb dX4_isField_6 (by decide) (fun c_2 => ?_) (fun c_2 => ?_)
    · simp only [pn_lt, pn_le, pn_eq, Int32.reduceToInt] at c_2
      refine lv_iconst (v := 0) hx hb dX4_isField_13 (by decide) ?_
      exact W.zret (v := 0) (ty := .boolean) hx hb hr (by decide) (fun tz_ ht hW => ⟨⟨0, (), rfl, (Or.inr ⟨rfl, (by first | exact trivial | omega | (simp only [Int32.reduceToInt] at *; omega) | decide)⟩), trivial⟩, hS.F ht⟩) hS.2.2 dX4_isField_14
    · simp only [pn_lt, pn_le, pn_eq, Int32.reduceToInt] at c_2
      refine lv_iconst (v := 1) hx hb dX4_isField_9 (by decide) ?_
      refine lv_goto (tgt := 14) hx hb dX4_isField_10 (by decide) ?_
      exact W.zret (v := 1) (ty := .boolean) hx hb hr (by decide) (fun tz_ ht hW => ⟨⟨1, (), rfl, (Or.inl ⟨rfl, (by first | exact trivial | omega | (simp only [Int32.reduceToInt] at *; omega) | decide)⟩), trivial⟩, hS.F ht⟩) hS.2.2 dX4_isField_14
set_option maxHeartbeats 4000000 in
set_option maxRecDepth 100000 in
theorem c_X4_checkNumber (l : Launch) (D : va_G) (cI cZ cJ cG : ClassId) (sz : Nat) (p0 : Int32) (hst : l.stackTraces = false) : vx_Met l yX4_checkNumber (pl_h yX4_checkNumber cX4_checkNumber 1 none) ({ frames := 6, cells := 1, slots := 6, locals := 82 }) (va_Pc [.int p0] (pn_X D (pn_Y cI cZ cJ cG) [] (pn_N sz) sz)) (va_Qv (fun (u : Unit) => 0 ≤ p0.toInt ∧ p0.toInt ≤ 11) (fun _ _ => True) (pn_N sz)) (vx_X (fun _ : Unit => True) (fun E _ _ => (E = "java/lang/IndexOutOfBoundsException" ∧ (p0.toInt < 0 ∨ 11 < p0.toInt))) (pn_N sz)) 1 6 (pn_N sz) := by
  refine vx_ofW (cc := cX4_checkNumber) (maxL := 1) (ret := none) (by decide) rfl ?_
  intro p e s m args below meth c s₁ B hml hout hv
  obtain ⟨rfl, ⟨hsz, hP, hK, hD0⟩, hZ, hT⟩ := hv
  have hx := B.exec
  have hb := B.bytes
  have hr := B.returns
  have hts0 := atoms_spec (ws := pl_h yX4_checkNumber cX4_checkNumber 1 none) B.pre
  have hts := fun (w : Cond) (h : w ∈ pw_all) => hts0 w (List.mem_cons_of_mem _ h)
  have hown : s.vm.findClass RX4 = some m.cls := findClass_of_methodNamed B.named
  have hlocks := B.notSynchronized
  subst hsz
  have hA : ∀ q : Nat, s.heap.size ≤ q → pn_N s.heap.size q := fun q h => h
  have hS : va_S (pn_N s.heap.size) s.heap s.heap [] := va_S.rf
  have hD := hD0
  have hl := lv_entry ([.int p0]) (n := 1) (Nat.le_of_ble_eq_true rfl)
  rw [lg_entry_eq]
  generalize (lg_sl ([.int p0]) ++ List.replicate (1 - (lg_sl ([.int p0])).length) Slot.unset).toArray = ls at hl ⊢
  have hl : lv_has ls 1 [(0, .int p0)] := hl
  refine lv_iload_n hx hb dX4_checkNumber_0 rfl (lv_at hl 0 rfl) ?_
  have hPc := hP.sub (ws' := []) [] rfl
  refine pn_ci (va_runS (As := [.int p0]) (rest := []) ⟨hx, hb, hml, hown, hts⟩ (c_X4_isNumber l D cI cZ cJ cG s.heap.size p0) (va_cwS 1 hts (pl_S (pl_m 221 (by decide +kernel)) (pl_m 222 (by decide +kernel)) (pl_m 15 (by decide +kernel)) (pl_m 223 (by decide +kernel))) rfl rfl rfl (by decide +kernel) ⟨(Nat.le_of_ble_eq_true rfl), (Nat.le_of_ble_eq_true rfl)⟩) ⟨pn_B_blind, (pn_B_at hPc hK)⟩ rfl rfl hl.1 rfl (lv_room (Nat.le_of_ble_eq_true rfl)) dX4_checkNumber_1 ⟨(Nat.le_of_ble_eq_true rfl), (Nat.le_of_ble_eq_true rfl)⟩) hS hA hP (fun r_1 H locs hw hP hS => ?_)
  have hP : va_P D vwCl [] H := hP
  rcases hw with ⟨rfl, hw⟩ | ⟨rfl, hw⟩
  · try simp only [Int32.reduceToInt] at hw
    have hw_2 := hw
    refine lv_if_ne (tgt := 18) hx hb dX4_checkNumber_4 (by decide) (fun _ => ?_) (fun h9 => absurd h9 (by decide))
    refine vx_ret ?_
    refine W.widen (k := 1) (n := 6) (Nat.le_of_ble_eq_true rfl) (Nat.le_of_ble_eq_true rfl) ?_
    exact W.vret hx hb hr (fun tz_ ht hW => ⟨⟨(), rfl, (by first | exact trivial | omega | (simp only [Int32.reduceToInt] at *; omega) | decide), trivial⟩, hS.F ht⟩) hS.2.2 dX4_checkNumber_18
  · try simp only [Int32.reduceToInt] at hw
    have hw_3 := hw
    refine lv_if_ne (tgt := 18) hx hb dX4_checkNumber_4 (by decide) (fun h9 => absurd (by decide) h9) (fun _ => ?_)
    obtain ⟨sa_4, hstr_4⟩ := hT.2.1 (293, "a class is 0 to 11") (by decide +kernel)
    exact vx_throwSW (own := RX4) (cls := "java/lang/IndexOutOfBoundsException") (text := "a class is 0 to 11") (names := ["java/lang/RuntimeException", "java/lang/Exception"]) (ik := 120) (is := 293) (ic := 124) hx hb hst hown pn_fit.2.2.1 pn_fit.2.2.2 (hts (.classLink RX4 120 "java/lang/IndexOutOfBoundsException") (pl_m 165 (by decide +kernel))) (hts (.initialized "java/lang/IndexOutOfBoundsException") (pl_m 166 (by decide +kernel))) hstr_4 (pn_hat hts pl_x2 pn_hb3 hT) pn_hg3 hZ.1 hZ.2 hS (hl.1.trans hml.symm) dX4_checkNumber_7 dX4_checkNumber_10 dX4_checkNumber_11 dX4_checkNumber_14 dX4_checkNumber_17 (fun x h9 => (hout x h9).elim) (Nat.le_of_ble_eq_true rfl) (Nat.le_of_ble_eq_true rfl) (Nat.le_of_ble_eq_true rfl) (Nat.le_of_ble_eq_true rfl) hlocks (fun t _ h1 h2 => ⟨(), trivial, ⟨rfl, (by first | exact trivial | omega | (simp only [Int32.reduceToInt] at *; omega) | decide)⟩, pn_xF hS h1 h2⟩) hS.2.2 (Nat.le_of_ble_eq_true rfl) (Nat.le_of_ble_eq_true rfl)
set_option maxHeartbeats 4000000 in
set_option maxRecDepth 100000 in
theorem c_X4_checkNumberAndName (l : Launch) (D : va_G) (cI cZ cJ cG : ClassId) (sz : Nat) (p0 : Int32) (p1 : Int32) (hst : l.stackTraces = false) : vx_Met l yX4_checkNumberAndName (pl_h yX4_checkNumberAndName cX4_checkNumberAndName 2 none) ({ frames := 7, cells := 2, slots := 12, locals := 102 }) (va_Pc [.int p0, .int p1] (pn_X D (pn_Y cI cZ cJ cG) [] (pn_N sz) sz)) (va_Qv (fun (u : Unit) => 0 ≤ p0.toInt ∧ p0.toInt ≤ 11 ∧ 1 ≤ p1.toInt ∧ p1.toInt ≤ 5) (fun _ _ => True) (pn_N sz)) (vx_X (fun _ : Unit => True) (fun E _ _ => (E = "java/lang/IndexOutOfBoundsException" ∧ (p0.toInt < 0 ∨ 11 < p0.toInt ∨ p1.toInt < 1 ∨ 5 < p1.toInt))) (pn_N sz)) 2 12 (pn_N sz) := by
  refine vx_ofW (cc := cX4_checkNumberAndName) (maxL := 2) (ret := none) (by decide) rfl ?_
  intro p e s m args below meth c s₁ B hml hout hv
  obtain ⟨rfl, ⟨hsz, hP, hK, hD0⟩, hZ, hT⟩ := hv
  have hx := B.exec
  have hb := B.bytes
  have hr := B.returns
  have hts0 := atoms_spec (ws := pl_h yX4_checkNumberAndName cX4_checkNumberAndName 2 none) B.pre
  have hts := fun (w : Cond) (h : w ∈ pw_all) => hts0 w (List.mem_cons_of_mem _ h)
  have hown : s.vm.findClass RX4 = some m.cls := findClass_of_methodNamed B.named
  have hlocks := B.notSynchronized
  subst hsz
  have hA : ∀ q : Nat, s.heap.size ≤ q → pn_N s.heap.size q := fun q h => h
  have hS : va_S (pn_N s.heap.size) s.heap s.heap [] := va_S.rf
  have hD := hD0
  have hl := lv_entry ([.int p0, .int p1]) (n := 2) (Nat.le_of_ble_eq_true rfl)
  rw [lg_entry_eq]
  generalize (lg_sl ([.int p0, .int p1]) ++ List.replicate (2 - (lg_sl ([.int p0, .int p1])).length) Slot.unset).toArray = ls at hl ⊢
  have hl : lv_has ls 2 [(0, .int p0), (1, .int p1)] := hl
  refine lv_iload_n hx hb dX4_checkNumberAndName_0 rfl (lv_at hl 0 rfl) ?_
  have hPc := hP.sub (ws' := []) [] rfl
  have hDc := hD.sub (ws' := []) [] (by decide) rfl
  refine pn_xv (vx_runS (As := [.int p0]) (rest := []) ⟨hx, hb, hml, hown, hts⟩ (c_X4_checkNumber l D cI cZ cJ cG s.heap.size p0 hst) (va_cwS 1 hts (pl_S (pl_m 546 (by decide +kernel)) (pl_m 547 (by decide +kernel)) (pl_m 15 (by decide +kernel)) (pl_m 548 (by decide +kernel))) rfl rfl rfl (by decide +kernel) ⟨(Nat.le_of_ble_eq_true rfl), (Nat.le_of_ble_eq_true rfl)⟩) ⟨pn_X_blind, (pn_X_at hPc hDc hK hS hZ hT (fun q h => pn_NA hS hA q h))⟩ rfl rfl hl.1 rfl (lv_room (Nat.le_of_ble_eq_true rfl)) dX4_checkNumberAndName_1 ⟨(Nat.le_of_ble_eq_true rfl), (Nat.le_of_ble_eq_true rfl)⟩) hS hA hP (fun E ce q9 H locs hE hP hS h1 h2 h3 => ?_) (fun H locs hw hP hS => ?_)
  · refine pn_out (XE' := fun E => (E = "java/lang/IndexOutOfBoundsException" ∧ (p0.toInt < 0 ∨ 11 < p0.toInt ∨ p1.toInt < 1 ∨ 5 < p1.toInt))) hout hlocks hS ?_ h1 h2 h3 (Nat.le_of_ble_eq_true rfl) (Nat.le_of_ble_eq_true rfl)
    rcases hE with ⟨rfl, hE⟩
    · exact ⟨rfl, (by first | exact trivial | omega | (simp only [Int32.reduceToInt] at *; omega) | decide)⟩
  · have hP : va_P D vwCl [] H := hP
    refine W.widen (k := 1) (n := 6) (Nat.le_of_ble_eq_true rfl) (Nat.le_of_ble_eq_true rfl) ?_
    refine lv_iload_n hx hb dX4_checkNumberAndName_4 rfl (lv_at hl 1 rfl) ?_
    have hPc := hP.sub (ws' := []) [] rfl
    refine pn_ci (va_runS (As := [.int p1]) (rest := []) ⟨hx, hb, hml, hown, hts⟩ (c_X4_isCalledName l D cI cZ cJ cG H.size p1) (va_cwS 1 hts (pl_S (pl_m 218 (by decide +kernel)) (pl_m 219 (by decide +kernel)) (pl_m 15 (by decide +kernel)) (pl_m 220 (by decide +kernel))) rfl rfl rfl (by decide +kernel) ⟨(Nat.le_of_ble_eq_true rfl), (Nat.le_of_ble_eq_true rfl)⟩) ⟨pn_B_blind, (pn_B_at hPc hK)⟩ rfl rfl hl.1 rfl (lv_room (Nat.le_of_ble_eq_true rfl)) dX4_checkNumberAndName_5 ⟨(Nat.le_of_ble_eq_true rfl), (Nat.le_of_ble_eq_true rfl)⟩) hS hA hP (fun r_2 H locs hw hP hS => ?_)
    have hP : va_P D vwCl [] H := hP
    rcases hw with ⟨rfl, hw⟩ | ⟨rfl, hw⟩
    · try simp only [Int32.reduceToInt] at hw
      have hw_3 := hw
      refine lv_if_ne (tgt := 22) hx hb dX4_checkNumberAndName_8 (by decide) (fun _ => ?_) (fun h9 => absurd h9 (by decide))
      refine vx_ret ?_
      refine W.widen (k := 2) (n := 12) (Nat.le_of_ble_eq_true rfl) (Nat.le_of_ble_eq_true rfl) ?_
      exact W.vret hx hb hr (fun tz_ ht hW => ⟨⟨(), rfl, (by first | exact trivial | omega | (simp only [Int32.reduceToInt] at *; omega) | decide), trivial⟩, hS.F ht⟩) hS.2.2 dX4_checkNumberAndName_22
    · try simp only [Int32.reduceToInt] at hw
      have hw_4 := hw
      refine lv_if_ne (tgt := 22) hx hb dX4_checkNumberAndName_8 (by decide) (fun h9 => absurd (by decide) h9) (fun _ => ?_)
      obtain ⟨sa_5, hstr_5⟩ := hT.2.1 (298, "a name to run is 1 to 5") (by decide +kernel)
      exact vx_throwSW (own := RX4) (cls := "java/lang/IndexOutOfBoundsException") (text := "a name to run is 1 to 5") (names := ["java/lang/RuntimeException", "java/lang/Exception"]) (ik := 120) (is := 298) (ic := 124) hx hb hst hown pn_fit.2.2.1 pn_fit.2.2.2 (hts (.classLink RX4 120 "java/lang/IndexOutOfBoundsException") (pl_m 165 (by decide +kernel))) (hts (.initialized "java/lang/IndexOutOfBoundsException") (pl_m 166 (by decide +kernel))) hstr_5 (pn_hat hts pl_x2 pn_hb3 hT) pn_hg3 hZ.1 hZ.2 hS (hl.1.trans hml.symm) dX4_checkNumberAndName_11 dX4_checkNumberAndName_14 dX4_checkNumberAndName_15 dX4_checkNumberAndName_18 dX4_checkNumberAndName_21 (fun x h9 => (hout x h9).elim) (Nat.le_of_ble_eq_true rfl) (Nat.le_of_ble_eq_true rfl) (Nat.le_of_ble_eq_true rfl) (Nat.le_of_ble_eq_true rfl) hlocks (fun t _ h1 h2 => ⟨(), trivial, ⟨rfl, (by first | exact trivial | omega | (simp only [Int32.reduceToInt] at *; omega) | decide)⟩, pn_xF hS h1 h2⟩) hS.2.2 (Nat.le_of_ble_eq_true rfl) (Nat.le_of_ble_eq_true rfl)
set_option maxHeartbeats 4000000 in
set_option maxRecDepth 100000 in
theorem c_X4_checkInterfaces (l : Launch) (D : va_G) (cI cZ cJ cG : ClassId) (sz : Nat) (p0 : Int32) (hst : l.stackTraces = false) : vx_Met l yX4_checkInterfaces (pl_h yX4_checkInterfaces cX4_checkInterfaces 1 none) ({ frames := 6, cells := 1, slots := 6, locals := 82 }) (va_Pc [.int p0] (pn_X D (pn_Y cI cZ cJ cG) [] (pn_N sz) sz)) (va_Qv (fun (u : Unit) => 0 ≤ p0.toInt ∧ p0.toInt ≤ 4095) (fun _ _ => True) (pn_N sz)) (vx_X (fun _ : Unit => True) (fun E _ _ => (E = "java/lang/IllegalArgumentException" ∧ (p0.toInt < 0 ∨ 4095 < p0.toInt))) (pn_N sz)) 1 6 (pn_N sz) := by
  refine vx_ofW (cc := cX4_checkInterfaces) (maxL := 1) (ret := none) (by decide) rfl ?_
  intro p e s m args below meth c s₁ B hml hout hv
  obtain ⟨rfl, ⟨hsz, hP, hK, hD0⟩, hZ, hT⟩ := hv
  have hx := B.exec
  have hb := B.bytes
  have hr := B.returns
  have hts0 := atoms_spec (ws := pl_h yX4_checkInterfaces cX4_checkInterfaces 1 none) B.pre
  have hts := fun (w : Cond) (h : w ∈ pw_all) => hts0 w (List.mem_cons_of_mem _ h)
  have hown : s.vm.findClass RX4 = some m.cls := findClass_of_methodNamed B.named
  have hlocks := B.notSynchronized
  subst hsz
  have hA : ∀ q : Nat, s.heap.size ≤ q → pn_N s.heap.size q := fun q h => h
  have hS : va_S (pn_N s.heap.size) s.heap s.heap [] := va_S.rf
  have hD := hD0
  have hl := lv_entry ([.int p0]) (n := 1) (Nat.le_of_ble_eq_true rfl)
  rw [lg_entry_eq]
  generalize (lg_sl ([.int p0]) ++ List.replicate (1 - (lg_sl ([.int p0])).length) Slot.unset).toArray = ls at hl ⊢
  have hl : lv_has ls 1 [(0, .int p0)] := hl
  refine lv_iload_n hx hb dX4_checkInterfaces_0 rfl (lv_at hl 0 rfl) ?_
  refine lv_if_lt (tgt := 11) hx hb dX4_checkInterfaces_1 (by decide) (fun c_1 => ?_) (fun c_1 => ?_)
  · simp only [pn_lt, pn_le, pn_eq, Int32.reduceToInt] at c_1
    obtain ⟨sa_2, hstr_2⟩ := hT.2.1 (272, "no such set of interfaces") (by decide +kernel)
    exact vx_throwSW (own := RX4) (cls := "java/lang/IllegalArgumentException") (text := "no such set of interfaces") (names := ["java/lang/RuntimeException", "java/lang/Exception"]) (ik := 45) (is := 272) (ic := 49) hx hb hst hown pn_fit.1 pn_fit.2.2.2 (hts (.classLink RX4 45 "java/lang/IllegalArgumentException") (pl_m 135 (by decide +kernel))) (hts (.initialized "java/lang/IllegalArgumentException") (pl_m 136 (by decide +kernel))) hstr_2 (pn_hat hts pl_x0 pn_hb1 hT) pn_hg1 hZ.1 hZ.2 hS (hl.1.trans hml.symm) dX4_checkInterfaces_11 dX4_checkInterfaces_14 dX4_checkInterfaces_15 dX4_checkInterfaces_18 dX4_checkInterfaces_21 (fun x h9 => (hout x h9).elim) (Nat.le_of_ble_eq_true rfl) (Nat.le_of_ble_eq_true rfl) (Nat.le_of_ble_eq_true rfl) (Nat.le_of_ble_eq_true rfl) hlocks (fun t _ h1 h2 => ⟨(), trivial, ⟨rfl, (by first | exact trivial | omega | (simp only [Int32.reduceToInt] at *; omega) | decide)⟩, pn_xF hS h1 h2⟩) hS.2.2 (Nat.le_of_ble_eq_true rfl) (Nat.le_of_ble_eq_true rfl)
  · simp only [pn_lt, pn_le, pn_eq, Int32.reduceToInt] at c_1
    refine lv_iload_n hx hb dX4_checkInterfaces_4 rfl (lv_at hl 0 rfl) ?_
    refine lv_sipush (v := 4096) hx hb dX4_checkInterfaces_5 (by decide) ?_
    refine lv_icmp_lt (tgt := 22) hx hb dX4_checkInterfaces_8 (by decide) (fun c_3 => ?_) (fun c_3 => ?_)
    · simp only [pn_lt, pn_le, pn_eq, Int32.reduceToInt] at c_3
      refine vx_ret ?_
      refine W.widen (k := 1) (n := 6) (Nat.le_of_ble_eq_true rfl) (Nat.le_of_ble_eq_true rfl) ?_
      exact W.vret hx hb hr (fun tz_ ht hW => ⟨⟨(), rfl, (by first | exact trivial | omega | (simp only [Int32.reduceToInt] at *; omega) | decide), trivial⟩, hS.F ht⟩) hS.2.2 dX4_checkInterfaces_22
    · simp only [pn_lt, pn_le, pn_eq, Int32.reduceToInt] at c_3
      obtain ⟨sa_4, hstr_4⟩ := hT.2.1 (272, "no such set of interfaces") (by decide +kernel)
      exact vx_throwSW (own := RX4) (cls := "java/lang/IllegalArgumentException") (text := "no such set of interfaces") (names := ["java/lang/RuntimeException", "java/lang/Exception"]) (ik := 45) (is := 272) (ic := 49) hx hb hst hown pn_fit.1 pn_fit.2.2.2 (hts (.classLink RX4 45 "java/lang/IllegalArgumentException") (pl_m 135 (by decide +kernel))) (hts (.initialized "java/lang/IllegalArgumentException") (pl_m 136 (by decide +kernel))) hstr_4 (pn_hat hts pl_x0 pn_hb1 hT) pn_hg1 hZ.1 hZ.2 hS (hl.1.trans hml.symm) dX4_checkInterfaces_11 dX4_checkInterfaces_14 dX4_checkInterfaces_15 dX4_checkInterfaces_18 dX4_checkInterfaces_21 (fun x h9 => (hout x h9).elim) (Nat.le_of_ble_eq_true rfl) (Nat.le_of_ble_eq_true rfl) (Nat.le_of_ble_eq_true rfl) (Nat.le_of_ble_eq_true rfl) hlocks (fun t _ h1 h2 => ⟨(), trivial, ⟨rfl, (by first | exact trivial | omega | (simp only [Int32.reduceToInt] at *; omega) | decide)⟩, pn_xF hS h1 h2⟩) hS.2.2 (Nat.le_of_ble_eq_true rfl) (Nat.le_of_ble_eq_true rfl)
end
section
theorem dX0_init_0 : decode cX0_init 0 = .ok (.aload_n 0, 1) := by decide +kernel
theorem dX0_init_1 : decode cX0_init 1 = .ok (.invokespecial 3, 3) := by decide +kernel
theorem dX0_init_4 : decode cX0_init 4 = .ok (.aload_n 0, 1) := by decide +kernel
theorem dX0_init_5 : decode cX0_init 5 = .ok (.bipush 12, 2) := by decide +kernel
theorem dX0_init_7 : decode cX0_init 7 = .ok (.newarray .int, 2) := by decide +kernel
theorem dX0_init_9 : decode cX0_init 9 = .ok (.putfield 9, 3) := by decide +kernel
theorem dX0_init_12 : decode cX0_init 12 = .ok (.aload_n 0, 1) := by decide +kernel
theorem dX0_init_13 : decode cX0_init 13 = .ok (.bipush 72, 2) := by decide +kernel
theorem dX0_init_15 : decode cX0_init 15 = .ok (.newarray .int, 2) := by decide +kernel
theorem dX0_init_17 : decode cX0_init 17 = .ok (.putfield 15, 3) := by decide +kernel
theorem dX0_init_20 : decode cX0_init 20 = .ok (.aload_n 0, 1) := by decide +kernel
theorem dX0_init_21 : decode cX0_init 21 = .ok (.bipush 72, 2) := by decide +kernel
theorem dX0_init_23 : decode cX0_init 23 = .ok (.newarray .int, 2) := by decide +kernel
theorem dX0_init_25 : decode cX0_init 25 = .ok (.putfield 18, 3) := by decide +kernel
theorem dX0_init_28 : decode cX0_init 28 = .ok (.aload_n 0, 1) := by decide +kernel
theorem dX0_init_29 : decode cX0_init 29 = .ok (.bipush 12, 2) := by decide +kernel
theorem dX0_init_31 : decode cX0_init 31 = .ok (.newarray .int, 2) := by decide +kernel
theorem dX0_init_33 : decode cX0_init 33 = .ok (.putfield 21, 3) := by decide +kernel
theorem dX0_init_36 : decode cX0_init 36 = .ok (.aload_n 0, 1) := by decide +kernel
theorem dX0_init_37 : decode cX0_init 37 = .ok (.aload_n 1, 1) := by decide +kernel
theorem dX0_init_38 : decode cX0_init 38 = .ok (.putfield 24, 3) := by decide +kernel
theorem dX0_init_41 : decode cX0_init 41 = .ok (.return_, 1) := by decide +kernel
theorem dX1_init_0 : decode cX1_init 0 = .ok (.aload_n 0, 1) := by decide +kernel
theorem dX1_init_1 : decode cX1_init 1 = .ok (.invokespecial 3, 3) := by decide +kernel
theorem dX1_init_4 : decode cX1_init 4 = .ok (.aload_n 0, 1) := by decide +kernel
theorem dX1_init_5 : decode cX1_init 5 = .ok (.new 9, 3) := by decide +kernel
theorem dX1_init_8 : decode cX1_init 8 = .ok (.dup, 1) := by decide +kernel
theorem dX1_init_9 : decode cX1_init 9 = .ok (.invokespecial 11, 3) := by decide +kernel
theorem dX1_init_12 : decode cX1_init 12 = .ok (.putfield 12, 3) := by decide +kernel
theorem dX1_init_15 : decode cX1_init 15 = .ok (.aload_n 0, 1) := by decide +kernel
theorem dX1_init_16 : decode cX1_init 16 = .ok (.bipush 20, 2) := by decide +kernel
theorem dX1_init_18 : decode cX1_init 18 = .ok (.newarray .int, 2) := by decide +kernel
theorem dX1_init_20 : decode cX1_init 20 = .ok (.putfield 18, 3) := by decide +kernel
theorem dX1_init_23 : decode cX1_init 23 = .ok (.aload_n 0, 1) := by decide +kernel
theorem dX1_init_24 : decode cX1_init 24 = .ok (.bipush 21, 2) := by decide +kernel
theorem dX1_init_26 : decode cX1_init 26 = .ok (.newarray .int, 2) := by decide +kernel
theorem dX1_init_28 : decode cX1_init 28 = .ok (.putfield 22, 3) := by decide +kernel
theorem dX1_init_31 : decode cX1_init 31 = .ok (.aload_n 0, 1) := by decide +kernel
theorem dX1_init_32 : decode cX1_init 32 = .ok (.sipush 1008, 3) := by decide +kernel
theorem dX1_init_35 : decode cX1_init 35 = .ok (.newarray .int, 2) := by decide +kernel
theorem dX1_init_37 : decode cX1_init 37 = .ok (.putfield 25, 3) := by decide +kernel
theorem dX1_init_40 : decode cX1_init 40 = .ok (.aload_n 0, 1) := by decide +kernel
theorem dX1_init_41 : decode cX1_init 41 = .ok (.aload_n 1, 1) := by decide +kernel
theorem dX1_init_42 : decode cX1_init 42 = .ok (.putfield 28, 3) := by decide +kernel
theorem dX1_init_45 : decode cX1_init 45 = .ok (.aload_n 0, 1) := by decide +kernel
theorem dX1_init_46 : decode cX1_init 46 = .ok (.aload_n 2, 1) := by decide +kernel
theorem dX1_init_47 : decode cX1_init 47 = .ok (.putfield 32, 3) := by decide +kernel
theorem dX1_init_50 : decode cX1_init 50 = .ok (.aload_n 0, 1) := by decide +kernel
theorem dX1_init_51 : decode cX1_init 51 = .ok (.aload_n 3, 1) := by decide +kernel
theorem dX1_init_52 : decode cX1_init 52 = .ok (.putfield 36, 3) := by decide +kernel
theorem dX1_init_55 : decode cX1_init 55 = .ok (.return_, 1) := by decide +kernel
theorem dX2_init_0 : decode cX2_init 0 = .ok (.aload_n 0, 1) := by decide +kernel
theorem dX2_init_1 : decode cX2_init 1 = .ok (.invokespecial 3, 3) := by decide +kernel
theorem dX2_init_4 : decode cX2_init 4 = .ok (.aload_n 0, 1) := by decide +kernel
theorem dX2_init_5 : decode cX2_init 5 = .ok (.bipush 12, 2) := by decide +kernel
theorem dX2_init_7 : decode cX2_init 7 = .ok (.newarray .int, 2) := by decide +kernel
theorem dX2_init_9 : decode cX2_init 9 = .ok (.putfield 9, 3) := by decide +kernel
theorem dX2_init_12 : decode cX2_init 12 = .ok (.aload_n 0, 1) := by decide +kernel
theorem dX2_init_13 : decode cX2_init 13 = .ok (.bipush 12, 2) := by decide +kernel
theorem dX2_init_15 : decode cX2_init 15 = .ok (.newarray .int, 2) := by decide +kernel
theorem dX2_init_17 : decode cX2_init 17 = .ok (.putfield 15, 3) := by decide +kernel
theorem dX2_init_20 : decode cX2_init 20 = .ok (.aload_n 0, 1) := by decide +kernel
theorem dX2_init_21 : decode cX2_init 21 = .ok (.bipush 12, 2) := by decide +kernel
theorem dX2_init_23 : decode cX2_init 23 = .ok (.newarray .int, 2) := by decide +kernel
theorem dX2_init_25 : decode cX2_init 25 = .ok (.putfield 18, 3) := by decide +kernel
theorem dX2_init_28 : decode cX2_init 28 = .ok (.aload_n 0, 1) := by decide +kernel
theorem dX2_init_29 : decode cX2_init 29 = .ok (.bipush 12, 2) := by decide +kernel
theorem dX2_init_31 : decode cX2_init 31 = .ok (.newarray .int, 2) := by decide +kernel
theorem dX2_init_33 : decode cX2_init 33 = .ok (.putfield 21, 3) := by decide +kernel
theorem dX2_init_36 : decode cX2_init 36 = .ok (.aload_n 0, 1) := by decide +kernel
theorem dX2_init_37 : decode cX2_init 37 = .ok (.bipush 12, 2) := by decide +kernel
theorem dX2_init_39 : decode cX2_init 39 = .ok (.newarray .int, 2) := by decide +kernel
theorem dX2_init_41 : decode cX2_init 41 = .ok (.putfield 24, 3) := by decide +kernel
theorem dX2_init_44 : decode cX2_init 44 = .ok (.aload_n 0, 1) := by decide +kernel
theorem dX2_init_45 : decode cX2_init 45 = .ok (.bipush 12, 2) := by decide +kernel
theorem dX2_init_47 : decode cX2_init 47 = .ok (.newarray .int, 2) := by decide +kernel
theorem dX2_init_49 : decode cX2_init 49 = .ok (.putfield 27, 3) := by decide +kernel
theorem dX2_init_52 : decode cX2_init 52 = .ok (.aload_n 0, 1) := by decide +kernel
theorem dX2_init_53 : decode cX2_init 53 = .ok (.sipush 504, 3) := by decide +kernel
theorem dX2_init_56 : decode cX2_init 56 = .ok (.newarray .int, 2) := by decide +kernel
theorem dX2_init_58 : decode cX2_init 58 = .ok (.putfield 30, 3) := by decide +kernel
theorem dX2_init_61 : decode cX2_init 61 = .ok (.aload_n 0, 1) := by decide +kernel
theorem dX2_init_62 : decode cX2_init 62 = .ok (.sipush 504, 3) := by decide +kernel
theorem dX2_init_65 : decode cX2_init 65 = .ok (.newarray .int, 2) := by decide +kernel
theorem dX2_init_67 : decode cX2_init 67 = .ok (.putfield 33, 3) := by decide +kernel
theorem dX2_init_70 : decode cX2_init 70 = .ok (.aload_n 0, 1) := by decide +kernel
theorem dX2_init_71 : decode cX2_init 71 = .ok (.sipush 504, 3) := by decide +kernel
theorem dX2_init_74 : decode cX2_init 74 = .ok (.newarray .int, 2) := by decide +kernel
theorem dX2_init_76 : decode cX2_init 76 = .ok (.putfield 36, 3) := by decide +kernel
theorem dX2_init_79 : decode cX2_init 79 = .ok (.aload_n 0, 1) := by decide +kernel
theorem dX2_init_80 : decode cX2_init 80 = .ok (.sipush 504, 3) := by decide +kernel
theorem dX2_init_83 : decode cX2_init 83 = .ok (.newarray .int, 2) := by decide +kernel
theorem dX2_init_85 : decode cX2_init 85 = .ok (.putfield 39, 3) := by decide +kernel
theorem dX2_init_88 : decode cX2_init 88 = .ok (.aload_n 0, 1) := by decide +kernel
theorem dX2_init_89 : decode cX2_init 89 = .ok (.sipush 504, 3) := by decide +kernel
theorem dX2_init_92 : decode cX2_init 92 = .ok (.newarray .int, 2) := by decide +kernel
theorem dX2_init_94 : decode cX2_init 94 = .ok (.putfield 42, 3) := by decide +kernel
theorem dX2_init_97 : decode cX2_init 97 = .ok (.aload_n 0, 1) := by decide +kernel
theorem dX2_init_98 : decode cX2_init 98 = .ok (.sipush 504, 3) := by decide +kernel
theorem dX2_init_101 : decode cX2_init 101 = .ok (.newarray .int, 2) := by decide +kernel
theorem dX2_init_103 : decode cX2_init 103 = .ok (.putfield 45, 3) := by decide +kernel
theorem dX2_init_106 : decode cX2_init 106 = .ok (.return_, 1) := by decide +kernel
theorem dX3_init_0 : decode cX3_init 0 = .ok (.aload_n 0, 1) := by decide +kernel
theorem dX3_init_1 : decode cX3_init 1 = .ok (.invokespecial 3, 3) := by decide +kernel
theorem dX3_init_4 : decode cX3_init 4 = .ok (.aload_n 0, 1) := by decide +kernel
theorem dX3_init_5 : decode cX3_init 5 = .ok (.bipush 12, 2) := by decide +kernel
theorem dX3_init_7 : decode cX3_init 7 = .ok (.newarray .boolean, 2) := by decide +kernel
theorem dX3_init_9 : decode cX3_init 9 = .ok (.putfield 9, 3) := by decide +kernel
theorem dX3_init_12 : decode cX3_init 12 = .ok (.aload_n 0, 1) := by decide +kernel
theorem dX3_init_13 : decode cX3_init 13 = .ok (.bipush 12, 2) := by decide +kernel
theorem dX3_init_15 : decode cX3_init 15 = .ok (.newarray .int, 2) := by decide +kernel
theorem dX3_init_17 : decode cX3_init 17 = .ok (.putfield 15, 3) := by decide +kernel
theorem dX3_init_20 : decode cX3_init 20 = .ok (.aload_n 0, 1) := by decide +kernel
theorem dX3_init_21 : decode cX3_init 21 = .ok (.bipush 12, 2) := by decide +kernel
theorem dX3_init_23 : decode cX3_init 23 = .ok (.newarray .int, 2) := by decide +kernel
theorem dX3_init_25 : decode cX3_init 25 = .ok (.putfield 19, 3) := by decide +kernel
theorem dX3_init_28 : decode cX3_init 28 = .ok (.aload_n 0, 1) := by decide +kernel
theorem dX3_init_29 : decode cX3_init 29 = .ok (.bipush 12, 2) := by decide +kernel
theorem dX3_init_31 : decode cX3_init 31 = .ok (.newarray .int, 2) := by decide +kernel
theorem dX3_init_33 : decode cX3_init 33 = .ok (.putfield 22, 3) := by decide +kernel
theorem dX3_init_36 : decode cX3_init 36 = .ok (.aload_n 0, 1) := by decide +kernel
theorem dX3_init_37 : decode cX3_init 37 = .ok (.bipush 84, 2) := by decide +kernel
theorem dX3_init_39 : decode cX3_init 39 = .ok (.newarray .int, 2) := by decide +kernel
theorem dX3_init_41 : decode cX3_init 41 = .ok (.putfield 25, 3) := by decide +kernel
theorem dX3_init_44 : decode cX3_init 44 = .ok (.aload_n 0, 1) := by decide +kernel
theorem dX3_init_45 : decode cX3_init 45 = .ok (.bipush 84, 2) := by decide +kernel
theorem dX3_init_47 : decode cX3_init 47 = .ok (.newarray .int, 2) := by decide +kernel
theorem dX3_init_49 : decode cX3_init 49 = .ok (.putfield 28, 3) := by decide +kernel
theorem dX3_init_52 : decode cX3_init 52 = .ok (.aload_n 0, 1) := by decide +kernel
theorem dX3_init_53 : decode cX3_init 53 = .ok (.sipush 504, 3) := by decide +kernel
theorem dX3_init_56 : decode cX3_init 56 = .ok (.newarray .int, 2) := by decide +kernel
theorem dX3_init_58 : decode cX3_init 58 = .ok (.putfield 31, 3) := by decide +kernel
theorem dX3_init_61 : decode cX3_init 61 = .ok (.aload_n 0, 1) := by decide +kernel
theorem dX3_init_62 : decode cX3_init 62 = .ok (.sipush 504, 3) := by decide +kernel
theorem dX3_init_65 : decode cX3_init 65 = .ok (.newarray .int, 2) := by decide +kernel
theorem dX3_init_67 : decode cX3_init 67 = .ok (.putfield 34, 3) := by decide +kernel
theorem dX3_init_70 : decode cX3_init 70 = .ok (.aload_n 0, 1) := by decide +kernel
theorem dX3_init_71 : decode cX3_init 71 = .ok (.sipush 504, 3) := by decide +kernel
theorem dX3_init_74 : decode cX3_init 74 = .ok (.newarray .int, 2) := by decide +kernel
theorem dX3_init_76 : decode cX3_init 76 = .ok (.putfield 37, 3) := by decide +kernel
theorem dX3_init_79 : decode cX3_init 79 = .ok (.return_, 1) := by decide +kernel
theorem dX4_init_0 : decode cX4_init 0 = .ok (.aload_n 0, 1) := by decide +kernel
theorem dX4_init_1 : decode cX4_init 1 = .ok (.invokespecial 3, 3) := by decide +kernel
theorem dX4_init_4 : decode cX4_init 4 = .ok (.aload_n 0, 1) := by decide +kernel
theorem dX4_init_5 : decode cX4_init 5 = .ok (.new 9, 3) := by decide +kernel
theorem dX4_init_8 : decode cX4_init 8 = .ok (.dup, 1) := by decide +kernel
theorem dX4_init_9 : decode cX4_init 9 = .ok (.invokespecial 11, 3) := by decide +kernel
theorem dX4_init_12 : decode cX4_init 12 = .ok (.putfield 12, 3) := by decide +kernel
theorem dX4_init_15 : decode cX4_init 15 = .ok (.aload_n 0, 1) := by decide +kernel
theorem dX4_init_16 : decode cX4_init 16 = .ok (.new 16, 3) := by decide +kernel
theorem dX4_init_19 : decode cX4_init 19 = .ok (.dup, 1) := by decide +kernel
theorem dX4_init_20 : decode cX4_init 20 = .ok (.aload_n 0, 1) := by decide +kernel
theorem dX4_init_21 : decode cX4_init 21 = .ok (.getfield 12, 3) := by decide +kernel
theorem dX4_init_24 : decode cX4_init 24 = .ok (.invokespecial 18, 3) := by decide +kernel
theorem dX4_init_27 : decode cX4_init 27 = .ok (.putfield 21, 3) := by decide +kernel
theorem dX4_init_30 : decode cX4_init 30 = .ok (.aload_n 0, 1) := by decide +kernel
theorem dX4_init_31 : decode cX4_init 31 = .ok (.new 25, 3) := by decide +kernel
theorem dX4_init_34 : decode cX4_init 34 = .ok (.dup, 1) := by decide +kernel
theorem dX4_init_35 : decode cX4_init 35 = .ok (.invokespecial 27, 3) := by decide +kernel
theorem dX4_init_38 : decode cX4_init 38 = .ok (.putfield 28, 3) := by decide +kernel
theorem dX4_init_41 : decode cX4_init 41 = .ok (.aload_n 0, 1) := by decide +kernel
theorem dX4_init_42 : decode cX4_init 42 = .ok (.new 32, 3) := by decide +kernel
theorem dX4_init_45 : decode cX4_init 45 = .ok (.dup, 1) := by decide +kernel
theorem dX4_init_46 : decode cX4_init 46 = .ok (.aload_n 0, 1) := by decide +kernel
theorem dX4_init_47 : decode cX4_init 47 = .ok (.getfield 12, 3) := by decide +kernel
theorem dX4_init_50 : decode cX4_init 50 = .ok (.aload_n 0, 1) := by decide +kernel
theorem dX4_init_51 : decode cX4_init 51 = .ok (.getfield 21, 3) := by decide +kernel
theorem dX4_init_54 : decode cX4_init 54 = .ok (.aload_n 0, 1) := by decide +kernel
theorem dX4_init_55 : decode cX4_init 55 = .ok (.getfield 28, 3) := by decide +kernel
theorem dX4_init_58 : decode cX4_init 58 = .ok (.invokespecial 34, 3) := by decide +kernel
theorem dX4_init_61 : decode cX4_init 61 = .ok (.putfield 37, 3) := by decide +kernel
theorem dX4_init_64 : decode cX4_init 64 = .ok (.return_, 1) := by decide +kernel
set_option maxHeartbeats 4000000 in
set_option maxRecDepth 100000 in
theorem c_X3_init (l : Launch) (D : va_G) (cI cZ cJ cG : ClassId) (sz : Nat) (h0 : Nat) : Met l yX3_init (pl_h yX3_init cX3_init 1 none) ({ frames := 1, cells := 9, slots := 1728, locals := 12 }) (va_Pc [.ref h0] (pn_M D (pn_Y cI cZ cJ cG) [(h0, .inr (3, [.int 0, .null, .null, .null, .null, .null, .null, .null, .null, .null]))] sz)) (va_Qv (fun (u : Nat → Nat) => True) (fun u tz_ => va_P D vwCl [(h0, .inr (3, [.int 0, .ref (u 0), .ref (u 1), .ref (u 2), .ref (u 3), .ref (u 4), .ref (u 5), .ref (u 6), .ref (u 7), .ref (u 8)])), ((u 0), .inl (cZ, 12, .inl (fun _ => 0))), ((u 1), .inl (cI, 12, .inl (fun _ => 0))), ((u 2), .inl (cI, 12, .inl (fun _ => 0))), ((u 3), .inl (cI, 12, .inl (fun _ => 0))), ((u 4), .inl (cI, 84, .inl (fun _ => 0))), ((u 5), .inl (cI, 84, .inl (fun _ => 0))), ((u 6), .inl (cI, 504, .inl (fun _ => 0))), ((u 7), .inl (cI, 504, .inl (fun _ => 0))), ((u 8), .inl (cI, 504, .inl (fun _ => 0)))] tz_.heap ∧ va_D (va_A [(h0, .inr (3, [.int 0, .null, .null, .null, .null, .null, .null, .null, .null, .null]))] sz) [(h0, .inr (3, [.int 0, .ref (u 0), .ref (u 1), .ref (u 2), .ref (u 3), .ref (u 4), .ref (u 5), .ref (u 6), .ref (u 7), .ref (u 8)])), ((u 0), .inl (cZ, 12, .inl (fun _ => 0))), ((u 1), .inl (cI, 12, .inl (fun _ => 0))), ((u 2), .inl (cI, 12, .inl (fun _ => 0))), ((u 3), .inl (cI, 12, .inl (fun _ => 0))), ((u 4), .inl (cI, 84, .inl (fun _ => 0))), ((u 5), .inl (cI, 84, .inl (fun _ => 0))), ((u 6), .inl (cI, 504, .inl (fun _ => 0))), ((u 7), .inl (cI, 504, .inl (fun _ => 0))), ((u 8), .inl (cI, 504, .inl (fun _ => 0)))]) (va_A [(h0, .inr (3, [.int 0, .null, .null, .null, .null, .null, .null, .null, .null, .null]))] sz)) 9 1728 (va_A [(h0, .inr (3, [.int 0, .null, .null, .null, .null, .null, .null, .null, .null, .null]))] sz) := by
  refine Met.ofW (cc := cX3_init) (maxL := 1) (ret := none) (by decide) rfl ?_
  intro p e s m args below meth c s₁ B hml hv
  obtain ⟨rfl, hsz, hP, hK, hD0⟩ := hv
  have hx := B.exec
  have hb := B.bytes
  have hr := B.returns
  have hts0 := atoms_spec (ws := pl_h yX3_init cX3_init 1 none) B.pre
  have hts := fun (w : Cond) (h : w ∈ pw_all) => hts0 w (List.mem_cons_of_mem _ h)
  have hown : s.vm.findClass RX3 = some m.cls := findClass_of_methodNamed B.named
  have hlocks := B.notSynchronized
  have hin : meth.name = "<init>" := (name_of_methodNamed B.named B.method).1
  subst hsz
  have hD := hD0.self (sz := s.heap.size)
  generalize hAe : va_A [(h0, .inr (3, [.int 0, .null, .null, .null, .null, .null, .null, .null, .null, .null]))] s.heap.size = A at hD ⊢
  have hA : ∀ q : Nat, s.heap.size ≤ q → A q := fun q h => by rw [← hAe]; exact Or.inr h
  have hS : va_S A s.heap s.heap [] := va_S.rf
  have hl := lv_entry ([.ref h0]) (n := 1) (Nat.le_of_ble_eq_true rfl)
  rw [lg_entry_eq]
  generalize (lg_sl ([.ref h0]) ++ List.replicate (1 - (lg_sl ([.ref h0])).length) Slot.unset).toArray = ls at hl ⊢
  have hl : lv_has ls 1 [(0, .ref h0)] := hl
  refine lv_aload_n hx hb dX3_init_0 rfl (lv_at hl 0 rfl) ?_
  refine W.objInit hx hb hown (hts (.methodLink RX3 3 objectInit) (pl_m 59 (by decide +kernel))) (hts (.instanceMethod objectInit) (pl_m 11 (by decide +kernel))) (hts (.code objectInit ⟨#[0xb1]⟩ 1 none) (pl_m 12 (by decide +kernel))) rfl (by rw [hml]; exact hl.1) rfl dX3_init_1 (Nat.le_of_ble_eq_true rfl) (Nat.le_of_ble_eq_true rfl) ?_
  refine W.eq (g2 := F0 m 4 ls []) rfl ?_
  refine lv_aload_n hx hb dX3_init_4 rfl (lv_at hl 0 rfl) ?_
  refine lv_bipush (v := 12) hx hb dX3_init_5 (by decide) ?_
  refine va_newa (atype := .boolean) (ty := .boolean) (N' := 12) (a0 := (12, .inl (fun _ => 0))) hx hb (hts (.arrayClass .boolean) (pl_m 4 (by decide +kernel))) rfl hK hP hD hS hA (fun _ => rfl) (by decide) (by decide +kernel) (Nat.le_of_ble_eq_true rfl) (Nat.le_of_ble_eq_true rfl) (Nat.le_of_ble_eq_true rfl) dX3_init_7 (fun q_1 cA H hK1 hP hD hS => ?_)
  obtain rfl := pn_sameZ hK1
  clear hK1
  have hP : va_P D vwCl [(h0, .inr (3, [.int 0, .null, .null, .null, .null, .null, .null, .null, .null, .null])), (q_1, .inl (cZ, 12, .inl (fun _ => 0)))] H := hP
  have hD : va_D (A) [(h0, .inr (3, [.int 0, .null, .null, .null, .null, .null, .null, .null, .null, .null])), (q_1, .inl (cZ, 12, .inl (fun _ => 0)))] := hD
  refine W.widen (k := 1) (n := 12) (Nat.le_of_ble_eq_true rfl) (Nat.le_of_ble_eq_true rfl) ?_
  refine va_putF (D := D) (ci := 3) (v := .ref q_1) (ty := (.array .boolean)) (C := RX3) (T := TX3) (N := 10) hx hb hts inlX3 tyX3 tyX3_ok nmX3 hown hK hP hD hS 0 rfl rfl 1 (by decide) (hts (.fieldLink RX3 9 "VtableTown$Told" "isFace" "[Z") (pl_m 60 (by decide +kernel))) (fun _ h9 => h9) rfl hin rfl (by decide +kernel) rfl rfl (Nat.le_of_ble_eq_true rfl) dX3_init_9 (fun H locs hP hD hS => ?_)
  have hP : va_P D vwCl [(h0, .inr (3, [.int 0, .ref q_1, .null, .null, .null, .null, .null, .null, .null, .null])), (q_1, .inl (cZ, 12, .inl (fun _ => 0)))] H := hP
  have hD : va_D (A) [(h0, .inr (3, [.int 0, .ref q_1, .null, .null, .null, .null, .null, .null, .null, .null])), (q_1, .inl (cZ, 12, .inl (fun _ => 0)))] := hD
  refine lv_aload_n hx hb dX3_init_12 rfl (lv_at hl 0 rfl) ?_
  refine lv_bipush (v := 12) hx hb dX3_init_13 (by decide) ?_
  refine va_newa (atype := .int) (ty := .int) (N' := 12) (a0 := (12, .inl (fun _ => 0))) hx hb (hts (.arrayClass .int) (pl_m 6 (by decide +kernel))) rfl hK hP hD hS hA (fun _ => rfl) (by decide) (by decide +kernel) (Nat.le_of_ble_eq_true rfl) (Nat.le_of_ble_eq_true rfl) (Nat.le_of_ble_eq_true rfl) dX3_init_15 (fun q_2 cA H hK1 hP hD hS => ?_)
  obtain rfl := pn_sameI hK1
  clear hK1
  have hP : va_P D vwCl [(h0, .inr (3, [.int 0, .ref q_1, .null, .null, .null, .null, .null, .null, .null, .null])), (q_1, .inl (cZ, 12, .inl (fun _ => 0))), (q_2, .inl (cI, 12, .inl (fun _ => 0)))] H := hP
  have hD : va_D (A) [(h0, .inr (3, [.int 0, .ref q_1, .null, .null, .null, .null, .null, .null, .null, .null])), (q_1, .inl (cZ, 12, .inl (fun _ => 0))), (q_2, .inl (cI, 12, .inl (fun _ => 0)))] := hD
  refine W.widen (k := 2) (n := 24) (Nat.le_of_ble_eq_true rfl) (Nat.le_of_ble_eq_true rfl) ?_
  refine va_putF (D := D) (ci := 3) (v := .ref q_2) (ty := (.array .int)) (C := RX3) (T := TX3) (N := 10) hx hb hts inlX3 tyX3 tyX3_ok nmX3 hown hK hP hD hS 0 rfl rfl 2 (by decide) (hts (.fieldLink RX3 15 "VtableTown$Told" "parents" "[I") (pl_m 61 (by decide +kernel))) (fun _ h9 => h9) rfl hin rfl (by decide +kernel) rfl rfl (Nat.le_of_ble_eq_true rfl) dX3_init_17 (fun H locs hP hD hS => ?_)
  have hP : va_P D vwCl [(h0, .inr (3, [.int 0, .ref q_1, .ref q_2, .null, .null, .null, .null, .null, .null, .null])), (q_1, .inl (cZ, 12, .inl (fun _ => 0))), (q_2, .inl (cI, 12, .inl (fun _ => 0)))] H := hP
  have hD : va_D (A) [(h0, .inr (3, [.int 0, .ref q_1, .ref q_2, .null, .null, .null, .null, .null, .null, .null])), (q_1, .inl (cZ, 12, .inl (fun _ => 0))), (q_2, .inl (cI, 12, .inl (fun _ => 0)))] := hD
  refine lv_aload_n hx hb dX3_init_20 rfl (lv_at hl 0 rfl) ?_
  refine lv_bipush (v := 12) hx hb dX3_init_21 (by decide) ?_
  refine va_newa (atype := .int) (ty := .int) (N' := 12) (a0 := (12, .inl (fun _ => 0))) hx hb (hts (.arrayClass .int) (pl_m 6 (by decide +kernel))) rfl hK hP hD hS hA (fun _ => rfl) (by decide) (by decide +kernel) (Nat.le_of_ble_eq_true rfl) (Nat.le_of_ble_eq_true rfl) (Nat.le_of_ble_eq_true rfl) dX3_init_23 (fun q_3 cA H hK1 hP hD hS => ?_)
  obtain rfl := pn_sameI hK1
  clear hK1
  have hP : va_P D vwCl [(h0, .inr (3, [.int 0, .ref q_1, .ref q_2, .null, .null, .null, .null, .null, .null, .null])), (q_1, .inl (cZ, 12, .inl (fun _ => 0))), (q_2, .inl (cI, 12, .inl (fun _ => 0))), (q_3, .inl (cI, 12, .inl (fun _ => 0)))] H := hP
  have hD : va_D (A) [(h0, .inr (3, [.int 0, .ref q_1, .ref q_2, .null, .null, .null, .null, .null, .null, .null])), (q_1, .inl (cZ, 12, .inl (fun _ => 0))), (q_2, .inl (cI, 12, .inl (fun _ => 0))), (q_3, .inl (cI, 12, .inl (fun _ => 0)))] := hD
  refine W.widen (k := 3) (n := 36) (Nat.le_of_ble_eq_true rfl) (Nat.le_of_ble_eq_true rfl) ?_
  refine va_putF (D := D) (ci := 3) (v := .ref q_3) (ty := (.array .int)) (C := RX3) (T := TX3) (N := 10) hx hb hts inlX3 tyX3 tyX3_ok nmX3 hown hK hP hD hS 0 rfl rfl 3 (by decide) (hts (.fieldLink RX3 19 "VtableTown$Told" "interfaces" "[I") (pl_m 62 (by decide +kernel))) (fun _ h9 => h9) rfl hin rfl (by decide +kernel) rfl rfl (Nat.le_of_ble_eq_true rfl) dX3_init_25 (fun H locs hP hD hS => ?_)
  have hP : va_P D vwCl [(h0, .inr (3, [.int 0, .ref q_1, .ref q_2, .ref q_3, .null, .null, .null, .null, .null, .null])), (q_1, .inl (cZ, 12, .inl (fun _ => 0))), (q_2, .inl (cI, 12, .inl (fun _ => 0))), (q_3, .inl (cI, 12, .inl (fun _ => 0)))] H := hP
  have hD : va_D (A) [(h0, .inr (3, [.int 0, .ref q_1, .ref q_2, .ref q_3, .null, .null, .null, .null, .null, .null])), (q_1, .inl (cZ, 12, .inl (fun _ => 0))), (q_2, .inl (cI, 12, .inl (fun _ => 0))), (q_3, .inl (cI, 12, .inl (fun _ => 0)))] := hD
  refine lv_aload_n hx hb dX3_init_28 rfl (lv_at hl 0 rfl) ?_
  refine lv_bipush (v := 12) hx hb dX3_init_29 (by decide) ?_
  refine va_newa (atype := .int) (ty := .int) (N' := 12) (a0 := (12, .inl (fun _ => 0))) hx hb (hts (.arrayClass .int) (pl_m 6 (by decide +kernel))) rfl hK hP hD hS hA (fun _ => rfl) (by decide) (by decide +kernel) (Nat.le_of_ble_eq_true rfl) (Nat.le_of_ble_eq_true rfl) (Nat.le_of_ble_eq_true rfl) dX3_init_31 (fun q_4 cA H hK1 hP hD hS => ?_)
  obtain rfl := pn_sameI hK1
  clear hK1
  have hP : va_P D vwCl [(h0, .inr (3, [.int 0, .ref q_1, .ref q_2, .ref q_3, .null, .null, .null, .null, .null, .null])), (q_1, .inl (cZ, 12, .inl (fun _ => 0))), (q_2, .inl (cI, 12, .inl (fun _ => 0))), (q_3, .inl (cI, 12, .inl (fun _ => 0))), (q_4, .inl (cI, 12, .inl (fun _ => 0)))] H := hP
  have hD : va_D (A) [(h0, .inr (3, [.int 0, .ref q_1, .ref q_2, .ref q_3, .null, .null, .null, .null, .null, .null])), (q_1, .inl (cZ, 12, .inl (fun _ => 0))), (q_2, .inl (cI, 12, .inl (fun _ => 0))), (q_3, .inl (cI, 12, .inl (fun _ => 0))), (q_4, .inl (cI, 12, .inl (fun _ => 0)))] := hD
  refine W.widen (k := 4) (n := 48) (Nat.le_of_ble_eq_true rfl) (Nat.le_of_ble_eq_true rfl) ?_
  refine va_putF (D := D) (ci := 3) (v := .ref q_4) (ty := (.array .int)) (C := RX3) (T := TX3) (N := 10) hx hb hts inlX3 tyX3 tyX3_ok nmX3 hown hK hP hD hS 0 rfl rfl 4 (by decide) (hts (.fieldLink RX3 22 "VtableTown$Told" "declared" "[I") (pl_m 63 (by decide +kernel))) (fun _ h9 => h9) rfl hin rfl (by decide +kernel) rfl rfl (Nat.le_of_ble_eq_true rfl) dX3_init_33 (fun H locs hP hD hS => ?_)
  have hP : va_P D vwCl [(h0, .inr (3, [.int 0, .ref q_1, .ref q_2, .ref q_3, .ref q_4, .null, .null, .null, .null, .null])), (q_1, .inl (cZ, 12, .inl (fun _ => 0))), (q_2, .inl (cI, 12, .inl (fun _ => 0))), (q_3, .inl (cI, 12, .inl (fun _ => 0))), (q_4, .inl (cI, 12, .inl (fun _ => 0)))] H := hP
  have hD : va_D (A) [(h0, .inr (3, [.int 0, .ref q_1, .ref q_2, .ref q_3, .ref q_4, .null, .null, .null, .null, .null])), (q_1, .inl (cZ, 12, .inl (fun _ => 0))), (q_2, .inl (cI, 12, .inl (fun _ => 0))), (q_3, .inl (cI, 12, .inl (fun _ => 0))), (q_4, .inl (cI, 12, .inl (fun _ => 0)))] := hD
  refine lv_aload_n hx hb dX3_init_36 rfl (lv_at hl 0 rfl) ?_
  refine lv_bipush (v := 84) hx hb dX3_init_37 (by decide) ?_
  refine va_newa (atype := .int) (ty := .int) (N' := 84) (a0 := (84, .inl (fun _ => 0))) hx hb (hts (.arrayClass .int) (pl_m 6 (by decide +kernel))) rfl hK hP hD hS hA (fun _ => rfl) (by decide) (by decide +kernel) (Nat.le_of_ble_eq_true rfl) (Nat.le_of_ble_eq_true rfl) (Nat.le_of_ble_eq_true rfl) dX3_init_39 (fun q_5 cA H hK1 hP hD hS => ?_)
  obtain rfl := pn_sameI hK1
  clear hK1
  have hP : va_P D vwCl [(h0, .inr (3, [.int 0, .ref q_1, .ref q_2, .ref q_3, .ref q_4, .null, .null, .null, .null, .null])), (q_1, .inl (cZ, 12, .inl (fun _ => 0))), (q_2, .inl (cI, 12, .inl (fun _ => 0))), (q_3, .inl (cI, 12, .inl (fun _ => 0))), (q_4, .inl (cI, 12, .inl (fun _ => 0))), (q_5, .inl (cI, 84, .inl (fun _ => 0)))] H := hP
  have hD : va_D (A) [(h0, .inr (3, [.int 0, .ref q_1, .ref q_2, .ref q_3, .ref q_4, .null, .null, .null, .null, .null])), (q_1, .inl (cZ, 12, .inl (fun _ => 0))), (q_2, .inl (cI, 12, .inl (fun _ => 0))), (q_3, .inl (cI, 12, .inl (fun _ => 0))), (q_4, .inl (cI, 12, .inl (fun _ => 0))), (q_5, .inl (cI, 84, .inl (fun _ => 0)))] := hD
  refine W.widen (k := 5) (n := 132) (Nat.le_of_ble_eq_true rfl) (Nat.le_of_ble_eq_true rfl) ?_
  refine va_putF (D := D) (ci := 3) (v := .ref q_5) (ty := (.array .int)) (C := RX3) (T := TX3) (N := 10) hx hb hts inlX3 tyX3 tyX3_ok nmX3 hown hK hP hD hS 0 rfl rfl 5 (by decide) (hts (.fieldLink RX3 25 "VtableTown$Told" "has" "[I") (pl_m 64 (by decide +kernel))) (fun _ h9 => h9) rfl hin rfl (by decide +kernel) rfl rfl (Nat.le_of_ble_eq_true rfl) dX3_init_41 (fun H locs hP hD hS => ?_)
  have hP : va_P D vwCl [(h0, .inr (3, [.int 0, .ref q_1, .ref q_2, .ref q_3, .ref q_4, .ref q_5, .null, .null, .null, .null])), (q_1, .inl (cZ, 12, .inl (fun _ => 0))), (q_2, .inl (cI, 12, .inl (fun _ => 0))), (q_3, .inl (cI, 12, .inl (fun _ => 0))), (q_4, .inl (cI, 12, .inl (fun _ => 0))), (q_5, .inl (cI, 84, .inl (fun _ => 0)))] H := hP
  have hD : va_D (A) [(h0, .inr (3, [.int 0, .ref q_1, .ref q_2, .ref q_3, .ref q_4, .ref q_5, .null, .null, .null, .null])), (q_1, .inl (cZ, 12, .inl (fun _ => 0))), (q_2, .inl (cI, 12, .inl (fun _ => 0))), (q_3, .inl (cI, 12, .inl (fun _ => 0))), (q_4, .inl (cI, 12, .inl (fun _ => 0))), (q_5, .inl (cI, 84, .inl (fun _ => 0)))] := hD
  refine lv_aload_n hx hb dX3_init_44 rfl (lv_at hl 0 rfl) ?_
  refine lv_bipush (v := 84) hx hb dX3_init_45 (by decide) ?_
  refine va_newa (atype := .int) (ty := .int) (N' := 84) (a0 := (84, .inl (fun _ => 0))) hx hb (hts (.arrayClass .int) (pl_m 6 (by decide +kernel))) rfl hK hP hD hS hA (fun _ => rfl) (by decide) (by decide +kernel) (Nat.le_of_ble_eq_true rfl) (Nat.le_of_ble_eq_true rfl) (Nat.le_of_ble_eq_true rfl) dX3_init_47 (fun q_6 cA H hK1 hP hD hS => ?_)
  obtain rfl := pn_sameI hK1
  clear hK1
  have hP : va_P D vwCl [(h0, .inr (3, [.int 0, .ref q_1, .ref q_2, .ref q_3, .ref q_4, .ref q_5, .null, .null, .null, .null])), (q_1, .inl (cZ, 12, .inl (fun _ => 0))), (q_2, .inl (cI, 12, .inl (fun _ => 0))), (q_3, .inl (cI, 12, .inl (fun _ => 0))), (q_4, .inl (cI, 12, .inl (fun _ => 0))), (q_5, .inl (cI, 84, .inl (fun _ => 0))), (q_6, .inl (cI, 84, .inl (fun _ => 0)))] H := hP
  have hD : va_D (A) [(h0, .inr (3, [.int 0, .ref q_1, .ref q_2, .ref q_3, .ref q_4, .ref q_5, .null, .null, .null, .null])), (q_1, .inl (cZ, 12, .inl (fun _ => 0))), (q_2, .inl (cI, 12, .inl (fun _ => 0))), (q_3, .inl (cI, 12, .inl (fun _ => 0))), (q_4, .inl (cI, 12, .inl (fun _ => 0))), (q_5, .inl (cI, 84, .inl (fun _ => 0))), (q_6, .inl (cI, 84, .inl (fun _ => 0)))] := hD
  refine W.widen (k := 6) (n := 216) (Nat.le_of_ble_eq_true rfl) (Nat.le_of_ble_eq_true rfl) ?_
  refine va_putF (D := D) (ci := 3) (v := .ref q_6) (ty := (.array .int)) (C := RX3) (T := TX3) (N := 10) hx hb hts inlX3 tyX3 tyX3_ok nmX3 hown hK hP hD hS 0 rfl rfl 6 (by decide) (hts (.fieldLink RX3 28 "VtableTown$Told" "sizes" "[I") (pl_m 65 (by decide +kernel))) (fun _ h9 => h9) rfl hin rfl (by decide +kernel) rfl rfl (Nat.le_of_ble_eq_true rfl) dX3_init_49 (fun H locs hP hD hS => ?_)
  have hP : va_P D vwCl [(h0, .inr (3, [.int 0, .ref q_1, .ref q_2, .ref q_3, .ref q_4, .ref q_5, .ref q_6, .null, .null, .null])), (q_1, .inl (cZ, 12, .inl (fun _ => 0))), (q_2, .inl (cI, 12, .inl (fun _ => 0))), (q_3, .inl (cI, 12, .inl (fun _ => 0))), (q_4, .inl (cI, 12, .inl (fun _ => 0))), (q_5, .inl (cI, 84, .inl (fun _ => 0))), (q_6, .inl (cI, 84, .inl (fun _ => 0)))] H := hP
  have hD : va_D (A) [(h0, .inr (3, [.int 0, .ref q_1, .ref q_2, .ref q_3, .ref q_4, .ref q_5, .ref q_6, .null, .null, .null])), (q_1, .inl (cZ, 12, .inl (fun _ => 0))), (q_2, .inl (cI, 12, .inl (fun _ => 0))), (q_3, .inl (cI, 12, .inl (fun _ => 0))), (q_4, .inl (cI, 12, .inl (fun _ => 0))), (q_5, .inl (cI, 84, .inl (fun _ => 0))), (q_6, .inl (cI, 84, .inl (fun _ => 0)))] := hD
  refine lv_aload_n hx hb dX3_init_52 rfl (lv_at hl 0 rfl) ?_
  refine lv_sipush (v := 504) hx hb dX3_init_53 (by decide) ?_
  refine va_newa (atype := .int) (ty := .int) (N' := 504) (a0 := (504, .inl (fun _ => 0))) hx hb (hts (.arrayClass .int) (pl_m 6 (by decide +kernel))) rfl hK hP hD hS hA (fun _ => rfl) (by decide) (by decide +kernel) (Nat.le_of_ble_eq_true rfl) (Nat.le_of_ble_eq_true rfl) (Nat.le_of_ble_eq_true rfl) dX3_init_56 (fun q_7 cA H hK1 hP hD hS => ?_)
  obtain rfl := pn_sameI hK1
  clear hK1
  have hP : va_P D vwCl [(h0, .inr (3, [.int 0, .ref q_1, .ref q_2, .ref q_3, .ref q_4, .ref q_5, .ref q_6, .null, .null, .null])), (q_1, .inl (cZ, 12, .inl (fun _ => 0))), (q_2, .inl (cI, 12, .inl (fun _ => 0))), (q_3, .inl (cI, 12, .inl (fun _ => 0))), (q_4, .inl (cI, 12, .inl (fun _ => 0))), (q_5, .inl (cI, 84, .inl (fun _ => 0))), (q_6, .inl (cI, 84, .inl (fun _ => 0))), (q_7, .inl (cI, 504, .inl (fun _ => 0)))] H := hP
  have hD : va_D (A) [(h0, .inr (3, [.int 0, .ref q_1, .ref q_2, .ref q_3, .ref q_4, .ref q_5, .ref q_6, .null, .null, .null])), (q_1, .inl (cZ, 12, .inl (fun _ => 0))), (q_2, .inl (cI, 12, .inl (fun _ => 0))), (q_3, .inl (cI, 12, .inl (fun _ => 0))), (q_4, .inl (cI, 12, .inl (fun _ => 0))), (q_5, .inl (cI, 84, .inl (fun _ => 0))), (q_6, .inl (cI, 84, .inl (fun _ => 0))), (q_7, .inl (cI, 504, .inl (fun _ => 0)))] := hD
  refine W.widen (k := 7) (n := 720) (Nat.le_of_ble_eq_true rfl) (Nat.le_of_ble_eq_true rfl) ?_
  refine va_putF (D := D) (ci := 3) (v := .ref q_7) (ty := (.array .int)) (C := RX3) (T := TX3) (N := 10) hx hb hts inlX3 tyX3 tyX3_ok nmX3 hown hK hP hD hS 0 rfl rfl 7 (by decide) (hts (.fieldLink RX3 31 "VtableTown$Told" "kinds" "[I") (pl_m 66 (by decide +kernel))) (fun _ h9 => h9) rfl hin rfl (by decide +kernel) rfl rfl (Nat.le_of_ble_eq_true rfl) dX3_init_58 (fun H locs hP hD hS => ?_)
  have hP : va_P D vwCl [(h0, .inr (3, [.int 0, .ref q_1, .ref q_2, .ref q_3, .ref q_4, .ref q_5, .ref q_6, .ref q_7, .null, .null])), (q_1, .inl (cZ, 12, .inl (fun _ => 0))), (q_2, .inl (cI, 12, .inl (fun _ => 0))), (q_3, .inl (cI, 12, .inl (fun _ => 0))), (q_4, .inl (cI, 12, .inl (fun _ => 0))), (q_5, .inl (cI, 84, .inl (fun _ => 0))), (q_6, .inl (cI, 84, .inl (fun _ => 0))), (q_7, .inl (cI, 504, .inl (fun _ => 0)))] H := hP
  have hD : va_D (A) [(h0, .inr (3, [.int 0, .ref q_1, .ref q_2, .ref q_3, .ref q_4, .ref q_5, .ref q_6, .ref q_7, .null, .null])), (q_1, .inl (cZ, 12, .inl (fun _ => 0))), (q_2, .inl (cI, 12, .inl (fun _ => 0))), (q_3, .inl (cI, 12, .inl (fun _ => 0))), (q_4, .inl (cI, 12, .inl (fun _ => 0))), (q_5, .inl (cI, 84, .inl (fun _ => 0))), (q_6, .inl (cI, 84, .inl (fun _ => 0))), (q_7, .inl (cI, 504, .inl (fun _ => 0)))] := hD
  refine lv_aload_n hx hb dX3_init_61 rfl (lv_at hl 0 rfl) ?_
  refine lv_sipush (v := 504) hx hb dX3_init_62 (by decide) ?_
  refine va_newa (atype := .int) (ty := .int) (N' := 504) (a0 := (504, .inl (fun _ => 0))) hx hb (hts (.arrayClass .int) (pl_m 6 (by decide +kernel))) rfl hK hP hD hS hA (fun _ => rfl) (by decide) (by decide +kernel) (Nat.le_of_ble_eq_true rfl) (Nat.le_of_ble_eq_true rfl) (Nat.le_of_ble_eq_true rfl) dX3_init_65 (fun q_8 cA H hK1 hP hD hS => ?_)
  obtain rfl := pn_sameI hK1
  clear hK1
  have hP : va_P D vwCl [(h0, .inr (3, [.int 0, .ref q_1, .ref q_2, .ref q_3, .ref q_4, .ref q_5, .ref q_6, .ref q_7, .null, .null])), (q_1, .inl (cZ, 12, .inl (fun _ => 0))), (q_2, .inl (cI, 12, .inl (fun _ => 0))), (q_3, .inl (cI, 12, .inl (fun _ => 0))), (q_4, .inl (cI, 12, .inl (fun _ => 0))), (q_5, .inl (cI, 84, .inl (fun _ => 0))), (q_6, .inl (cI, 84, .inl (fun _ => 0))), (q_7, .inl (cI, 504, .inl (fun _ => 0))), (q_8, .inl (cI, 504, .inl (fun _ => 0)))] H := hP
  have hD : va_D (A) [(h0, .inr (3, [.int 0, .ref q_1, .ref q_2, .ref q_3, .ref q_4, .ref q_5, .ref q_6, .ref q_7, .null, .null])), (q_1, .inl (cZ, 12, .inl (fun _ => 0))), (q_2, .inl (cI, 12, .inl (fun _ => 0))), (q_3, .inl (cI, 12, .inl (fun _ => 0))), (q_4, .inl (cI, 12, .inl (fun _ => 0))), (q_5, .inl (cI, 84, .inl (fun _ => 0))), (q_6, .inl (cI, 84, .inl (fun _ => 0))), (q_7, .inl (cI, 504, .inl (fun _ => 0))), (q_8, .inl (cI, 504, .inl (fun _ => 0)))] := hD
  refine W.widen (k := 8) (n := 1224) (Nat.le_of_ble_eq_true rfl) (Nat.le_of_ble_eq_true rfl) ?_
  refine va_putF (D := D) (ci := 3) (v := .ref q_8) (ty := (.array .int)) (C := RX3) (T := TX3) (N := 10) hx hb hts inlX3 tyX3 tyX3_ok nmX3 hown hK hP hD hS 0 rfl rfl 8 (by decide) (hts (.fieldLink RX3 34 "VtableTown$Told" "as" "[I") (pl_m 67 (by decide +kernel))) (fun _ h9 => h9) rfl hin rfl (by decide +kernel) rfl rfl (Nat.le_of_ble_eq_true rfl) dX3_init_67 (fun H locs hP hD hS => ?_)
  have hP : va_P D vwCl [(h0, .inr (3, [.int 0, .ref q_1, .ref q_2, .ref q_3, .ref q_4, .ref q_5, .ref q_6, .ref q_7, .ref q_8, .null])), (q_1, .inl (cZ, 12, .inl (fun _ => 0))), (q_2, .inl (cI, 12, .inl (fun _ => 0))), (q_3, .inl (cI, 12, .inl (fun _ => 0))), (q_4, .inl (cI, 12, .inl (fun _ => 0))), (q_5, .inl (cI, 84, .inl (fun _ => 0))), (q_6, .inl (cI, 84, .inl (fun _ => 0))), (q_7, .inl (cI, 504, .inl (fun _ => 0))), (q_8, .inl (cI, 504, .inl (fun _ => 0)))] H := hP
  have hD : va_D (A) [(h0, .inr (3, [.int 0, .ref q_1, .ref q_2, .ref q_3, .ref q_4, .ref q_5, .ref q_6, .ref q_7, .ref q_8, .null])), (q_1, .inl (cZ, 12, .inl (fun _ => 0))), (q_2, .inl (cI, 12, .inl (fun _ => 0))), (q_3, .inl (cI, 12, .inl (fun _ => 0))), (q_4, .inl (cI, 12, .inl (fun _ => 0))), (q_5, .inl (cI, 84, .inl (fun _ => 0))), (q_6, .inl (cI, 84, .inl (fun _ => 0))), (q_7, .inl (cI, 504, .inl (fun _ => 0))), (q_8, .inl (cI, 504, .inl (fun _ => 0)))] := hD
  refine lv_aload_n hx hb dX3_init_70 rfl (lv_at hl 0 rfl) ?_
  refine lv_sipush (v := 504) hx hb dX3_init_71 (by decide) ?_
  refine va_newa (atype := .int) (ty := .int) (N' := 504) (a0 := (504, .inl (fun _ => 0))) hx hb (hts (.arrayClass .int) (pl_m 6 (by decide +kernel))) rfl hK hP hD hS hA (fun _ => rfl) (by decide) (by decide +kernel) (Nat.le_of_ble_eq_true rfl) (Nat.le_of_ble_eq_true rfl) (Nat.le_of_ble_eq_true rfl) dX3_init_74 (fun q_9 cA H hK1 hP hD hS => ?_)
  obtain rfl := pn_sameI hK1
  clear hK1
  have hP : va_P D vwCl [(h0, .inr (3, [.int 0, .ref q_1, .ref q_2, .ref q_3, .ref q_4, .ref q_5, .ref q_6, .ref q_7, .ref q_8, .null])), (q_1, .inl (cZ, 12, .inl (fun _ => 0))), (q_2, .inl (cI, 12, .inl (fun _ => 0))), (q_3, .inl (cI, 12, .inl (fun _ => 0))), (q_4, .inl (cI, 12, .inl (fun _ => 0))), (q_5, .inl (cI, 84, .inl (fun _ => 0))), (q_6, .inl (cI, 84, .inl (fun _ => 0))), (q_7, .inl (cI, 504, .inl (fun _ => 0))), (q_8, .inl (cI, 504, .inl (fun _ => 0))), (q_9, .inl (cI, 504, .inl (fun _ => 0)))] H := hP
  have hD : va_D (A) [(h0, .inr (3, [.int 0, .ref q_1, .ref q_2, .ref q_3, .ref q_4, .ref q_5, .ref q_6, .ref q_7, .ref q_8, .null])), (q_1, .inl (cZ, 12, .inl (fun _ => 0))), (q_2, .inl (cI, 12, .inl (fun _ => 0))), (q_3, .inl (cI, 12, .inl (fun _ => 0))), (q_4, .inl (cI, 12, .inl (fun _ => 0))), (q_5, .inl (cI, 84, .inl (fun _ => 0))), (q_6, .inl (cI, 84, .inl (fun _ => 0))), (q_7, .inl (cI, 504, .inl (fun _ => 0))), (q_8, .inl (cI, 504, .inl (fun _ => 0))), (q_9, .inl (cI, 504, .inl (fun _ => 0)))] := hD
  refine W.widen (k := 9) (n := 1728) (Nat.le_of_ble_eq_true rfl) (Nat.le_of_ble_eq_true rfl) ?_
  refine va_putF (D := D) (ci := 3) (v := .ref q_9) (ty := (.array .int)) (C := RX3) (T := TX3) (N := 10) hx hb hts inlX3 tyX3 tyX3_ok nmX3 hown hK hP hD hS 0 rfl rfl 9 (by decide) (hts (.fieldLink RX3 37 "VtableTown$Told" "bs" "[I") (pl_m 68 (by decide +kernel))) (fun _ h9 => h9) rfl hin rfl (by decide +kernel) rfl rfl (Nat.le_of_ble_eq_true rfl) dX3_init_76 (fun H locs hP hD hS => ?_)
  have hP : va_P D vwCl [(h0, .inr (3, [.int 0, .ref q_1, .ref q_2, .ref q_3, .ref q_4, .ref q_5, .ref q_6, .ref q_7, .ref q_8, .ref q_9])), (q_1, .inl (cZ, 12, .inl (fun _ => 0))), (q_2, .inl (cI, 12, .inl (fun _ => 0))), (q_3, .inl (cI, 12, .inl (fun _ => 0))), (q_4, .inl (cI, 12, .inl (fun _ => 0))), (q_5, .inl (cI, 84, .inl (fun _ => 0))), (q_6, .inl (cI, 84, .inl (fun _ => 0))), (q_7, .inl (cI, 504, .inl (fun _ => 0))), (q_8, .inl (cI, 504, .inl (fun _ => 0))), (q_9, .inl (cI, 504, .inl (fun _ => 0)))] H := hP
  have hD : va_D (A) [(h0, .inr (3, [.int 0, .ref q_1, .ref q_2, .ref q_3, .ref q_4, .ref q_5, .ref q_6, .ref q_7, .ref q_8, .ref q_9])), (q_1, .inl (cZ, 12, .inl (fun _ => 0))), (q_2, .inl (cI, 12, .inl (fun _ => 0))), (q_3, .inl (cI, 12, .inl (fun _ => 0))), (q_4, .inl (cI, 12, .inl (fun _ => 0))), (q_5, .inl (cI, 84, .inl (fun _ => 0))), (q_6, .inl (cI, 84, .inl (fun _ => 0))), (q_7, .inl (cI, 504, .inl (fun _ => 0))), (q_8, .inl (cI, 504, .inl (fun _ => 0))), (q_9, .inl (cI, 504, .inl (fun _ => 0)))] := hD
  have hP9 := hP.sub (ws' := [(h0, .inr (3, [.int 0, .ref q_1, .ref q_2, .ref q_3, .ref q_4, .ref q_5, .ref q_6, .ref q_7, .ref q_8, .ref q_9])), (q_1, .inl (cZ, 12, .inl (fun _ => 0))), (q_2, .inl (cI, 12, .inl (fun _ => 0))), (q_3, .inl (cI, 12, .inl (fun _ => 0))), (q_4, .inl (cI, 12, .inl (fun _ => 0))), (q_5, .inl (cI, 84, .inl (fun _ => 0))), (q_6, .inl (cI, 84, .inl (fun _ => 0))), (q_7, .inl (cI, 504, .inl (fun _ => 0))), (q_8, .inl (cI, 504, .inl (fun _ => 0))), (q_9, .inl (cI, 504, .inl (fun _ => 0)))]) [0, 1, 2, 3, 4, 5, 6, 7, 8, 9] rfl
  have hD9 := hD.sub (ws' := [(h0, .inr (3, [.int 0, .ref q_1, .ref q_2, .ref q_3, .ref q_4, .ref q_5, .ref q_6, .ref q_7, .ref q_8, .ref q_9])), (q_1, .inl (cZ, 12, .inl (fun _ => 0))), (q_2, .inl (cI, 12, .inl (fun _ => 0))), (q_3, .inl (cI, 12, .inl (fun _ => 0))), (q_4, .inl (cI, 12, .inl (fun _ => 0))), (q_5, .inl (cI, 84, .inl (fun _ => 0))), (q_6, .inl (cI, 84, .inl (fun _ => 0))), (q_7, .inl (cI, 504, .inl (fun _ => 0))), (q_8, .inl (cI, 504, .inl (fun _ => 0))), (q_9, .inl (cI, 504, .inl (fun _ => 0)))]) [0, 1, 2, 3, 4, 5, 6, 7, 8, 9] (by decide) rfl
  exact W.vret hx hb hr (fun tz_ ht hW => ⟨⟨(fun k => ([q_1, q_2, q_3, q_4, q_5, q_6, q_7, q_8, q_9] : List Nat).getD k 0), rfl, (by first | exact trivial | omega | (simp only [Int32.reduceToInt] at *; omega) | decide), (by rw [ht]; exact hP9), hD9⟩, hS.F ht⟩) hS.2.2 dX3_init_79
set_option maxHeartbeats 4000000 in
set_option maxRecDepth 100000 in
theorem c_X0_init (l : Launch) (D : va_G) (cI cZ cJ cG : ClassId) (sz : Nat) (h0 : Nat) (t : Nat) : Met l yX0_init (pl_h yX0_init cX0_init 2 none) ({ frames := 1, cells := 4, slots := 168, locals := 12 }) (va_Pc [.ref h0, .ref t] (pn_M D (pn_Y cI cZ cJ cG) [(h0, .inr (0, [.null, .null, .null, .null, .null]))] sz)) (va_Qv (fun (u : Nat → Nat) => True) (fun u tz_ => va_P D vwCl [(h0, .inr (0, [.ref t, .ref (u 0), .ref (u 1), .ref (u 2), .ref (u 3)])), ((u 0), .inl (cI, 12, .inl (fun _ => 0))), ((u 1), .inl (cI, 72, .inl (fun _ => 0))), ((u 2), .inl (cI, 72, .inl (fun _ => 0))), ((u 3), .inl (cI, 12, .inl (fun _ => 0)))] tz_.heap ∧ va_D (va_A [(h0, .inr (0, [.null, .null, .null, .null, .null]))] sz) [(h0, .inr (0, [.ref t, .ref (u 0), .ref (u 1), .ref (u 2), .ref (u 3)])), ((u 0), .inl (cI, 12, .inl (fun _ => 0))), ((u 1), .inl (cI, 72, .inl (fun _ => 0))), ((u 2), .inl (cI, 72, .inl (fun _ => 0))), ((u 3), .inl (cI, 12, .inl (fun _ => 0)))]) (va_A [(h0, .inr (0, [.null, .null, .null, .null, .null]))] sz)) 4 168 (va_A [(h0, .inr (0, [.null, .null, .null, .null, .null]))] sz) := by
  refine Met.ofW (cc := cX0_init) (maxL := 2) (ret := none) (by decide) rfl ?_
  intro p e s m args below meth c s₁ B hml hv
  obtain ⟨rfl, hsz, hP, hK, hD0⟩ := hv
  have hx := B.exec
  have hb := B.bytes
  have hr := B.returns
  have hts0 := atoms_spec (ws := pl_h yX0_init cX0_init 2 none) B.pre
  have hts := fun (w : Cond) (h : w ∈ pw_all) => hts0 w (List.mem_cons_of_mem _ h)
  have hown : s.vm.findClass RX0 = some m.cls := findClass_of_methodNamed B.named
  have hlocks := B.notSynchronized
  have hin : meth.name = "<init>" := (name_of_methodNamed B.named B.method).1
  subst hsz
  have hD := hD0.self (sz := s.heap.size)
  generalize hAe : va_A [(h0, .inr (0, [.null, .null, .null, .null, .null]))] s.heap.size = A at hD ⊢
  have hA : ∀ q : Nat, s.heap.size ≤ q → A q := fun q h => by rw [← hAe]; exact Or.inr h
  have hS : va_S A s.heap s.heap [] := va_S.rf
  have hl := lv_entry ([.ref h0, .ref t]) (n := 2) (Nat.le_of_ble_eq_true rfl)
  rw [lg_entry_eq]
  generalize (lg_sl ([.ref h0, .ref t]) ++ List.replicate (2 - (lg_sl ([.ref h0, .ref t])).length) Slot.unset).toArray = ls at hl ⊢
  have hl : lv_has ls 2 [(0, .ref h0), (1, .ref t)] := hl
  refine lv_aload_n hx hb dX0_init_0 rfl (lv_at hl 0 rfl) ?_
  refine W.objInit hx hb hown (hts (.methodLink RX0 3 objectInit) (pl_m 72 (by decide +kernel))) (hts (.instanceMethod objectInit) (pl_m 11 (by decide +kernel))) (hts (.code objectInit ⟨#[0xb1]⟩ 1 none) (pl_m 12 (by decide +kernel))) rfl (by rw [hml]; exact hl.1) rfl dX0_init_1 (Nat.le_of_ble_eq_true rfl) (Nat.le_of_ble_eq_true rfl) ?_
  refine W.eq (g2 := F0 m 4 ls []) rfl ?_
  refine lv_aload_n hx hb dX0_init_4 rfl (lv_at hl 0 rfl) ?_
  refine lv_bipush (v := 12) hx hb dX0_init_5 (by decide) ?_
  refine va_newa (atype := .int) (ty := .int) (N' := 12) (a0 := (12, .inl (fun _ => 0))) hx hb (hts (.arrayClass .int) (pl_m 6 (by decide +kernel))) rfl hK hP hD hS hA (fun _ => rfl) (by decide) (by decide +kernel) (Nat.le_of_ble_eq_true rfl) (Nat.le_of_ble_eq_true rfl) (Nat.le_of_ble_eq_true rfl) dX0_init_7 (fun q_1 cA H hK1 hP hD hS => ?_)
  obtain rfl := pn_sameI hK1
  clear hK1
  have hP : va_P D vwCl [(h0, .inr (0, [.null, .null, .null, .null, .null])), (q_1, .inl (cI, 12, .inl (fun _ => 0)))] H := hP
  have hD : va_D (A) [(h0, .inr (0, [.null, .null, .null, .null, .null])), (q_1, .inl (cI, 12, .inl (fun _ => 0)))] := hD
  refine W.widen (k := 1) (n := 12) (Nat.le_of_ble_eq_true rfl) (Nat.le_of_ble_eq_true rfl) ?_
  refine va_putF (D := D) (ci := 0) (v := .ref q_1) (ty := (.array .int)) (C := RX0) (T := TX0) (N := 5) hx hb hts inlX0 tyX0 tyX0_ok nmX0 hown hK hP hD hS 0 rfl rfl 1 (by decide) (hts (.fieldLink RX0 9 "VtableTown$Finder" "of" "[I") (pl_m 73 (by decide +kernel))) (fun _ h9 => h9) rfl hin rfl (by decide +kernel) rfl rfl (Nat.le_of_ble_eq_true rfl) dX0_init_9 (fun H locs hP hD hS => ?_)
  have hP : va_P D vwCl [(h0, .inr (0, [.null, .ref q_1, .null, .null, .null])), (q_1, .inl (cI, 12, .inl (fun _ => 0)))] H := hP
  have hD : va_D (A) [(h0, .inr (0, [.null, .ref q_1, .null, .null, .null])), (q_1, .inl (cI, 12, .inl (fun _ => 0)))] := hD
  refine lv_aload_n hx hb dX0_init_12 rfl (lv_at hl 0 rfl) ?_
  refine lv_bipush (v := 72) hx hb dX0_init_13 (by decide) ?_
  refine va_newa (atype := .int) (ty := .int) (N' := 72) (a0 := (72, .inl (fun _ => 0))) hx hb (hts (.arrayClass .int) (pl_m 6 (by decide +kernel))) rfl hK hP hD hS hA (fun _ => rfl) (by decide) (by decide +kernel) (Nat.le_of_ble_eq_true rfl) (Nat.le_of_ble_eq_true rfl) (Nat.le_of_ble_eq_true rfl) dX0_init_15 (fun q_2 cA H hK1 hP hD hS => ?_)
  obtain rfl := pn_sameI hK1
  clear hK1
  have hP : va_P D vwCl [(h0, .inr (0, [.null, .ref q_1, .null, .null, .null])), (q_1, .inl (cI, 12, .inl (fun _ => 0))), (q_2, .inl (cI, 72, .inl (fun _ => 0)))] H := hP
  have hD : va_D (A) [(h0, .inr (0, [.null, .ref q_1, .null, .null, .null])), (q_1, .inl (cI, 12, .inl (fun _ => 0))), (q_2, .inl (cI, 72, .inl (fun _ => 0)))] := hD
  refine W.widen (k := 2) (n := 84) (Nat.le_of_ble_eq_true rfl) (Nat.le_of_ble_eq_true rfl) ?_
  refine va_putF (D := D) (ci := 0) (v := .ref q_2) (ty := (.array .int)) (C := RX0) (T := TX0) (N := 5) hx hb hts inlX0 tyX0 tyX0_ok nmX0 hown hK hP hD hS 0 rfl rfl 2 (by decide) (hts (.fieldLink RX0 15 "VtableTown$Finder" "found" "[I") (pl_m 74 (by decide +kernel))) (fun _ h9 => h9) rfl hin rfl (by decide +kernel) rfl rfl (Nat.le_of_ble_eq_true rfl) dX0_init_17 (fun H locs hP hD hS => ?_)
  have hP : va_P D vwCl [(h0, .inr (0, [.null, .ref q_1, .ref q_2, .null, .null])), (q_1, .inl (cI, 12, .inl (fun _ => 0))), (q_2, .inl (cI, 72, .inl (fun _ => 0)))] H := hP
  have hD : va_D (A) [(h0, .inr (0, [.null, .ref q_1, .ref q_2, .null, .null])), (q_1, .inl (cI, 12, .inl (fun _ => 0))), (q_2, .inl (cI, 72, .inl (fun _ => 0)))] := hD
  refine lv_aload_n hx hb dX0_init_20 rfl (lv_at hl 0 rfl) ?_
  refine lv_bipush (v := 72) hx hb dX0_init_21 (by decide) ?_
  refine va_newa (atype := .int) (ty := .int) (N' := 72) (a0 := (72, .inl (fun _ => 0))) hx hb (hts (.arrayClass .int) (pl_m 6 (by decide +kernel))) rfl hK hP hD hS hA (fun _ => rfl) (by decide) (by decide +kernel) (Nat.le_of_ble_eq_true rfl) (Nat.le_of_ble_eq_true rfl) (Nat.le_of_ble_eq_true rfl) dX0_init_23 (fun q_3 cA H hK1 hP hD hS => ?_)
  obtain rfl := pn_sameI hK1
  clear hK1
  have hP : va_P D vwCl [(h0, .inr (0, [.null, .ref q_1, .ref q_2, .null, .null])), (q_1, .inl (cI, 12, .inl (fun _ => 0))), (q_2, .inl (cI, 72, .inl (fun _ => 0))), (q_3, .inl (cI, 72, .inl (fun _ => 0)))] H := hP
  have hD : va_D (A) [(h0, .inr (0, [.null, .ref q_1, .ref q_2, .null, .null])), (q_1, .inl (cI, 12, .inl (fun _ => 0))), (q_2, .inl (cI, 72, .inl (fun _ => 0))), (q_3, .inl (cI, 72, .inl (fun _ => 0)))] := hD
  refine W.widen (k := 3) (n := 156) (Nat.le_of_ble_eq_true rfl) (Nat.le_of_ble_eq_true rfl) ?_
  refine va_putF (D := D) (ci := 0) (v := .ref q_3) (ty := (.array .int)) (C := RX0) (T := TX0) (N := 5) hx hb hts inlX0 tyX0 tyX0_ok nmX0 hown hK hP hD hS 0 rfl rfl 3 (by decide) (hts (.fieldLink RX0 18 "VtableTown$Finder" "slots" "[I") (pl_m 75 (by decide +kernel))) (fun _ h9 => h9) rfl hin rfl (by decide +kernel) rfl rfl (Nat.le_of_ble_eq_true rfl) dX0_init_25 (fun H locs hP hD hS => ?_)
  have hP : va_P D vwCl [(h0, .inr (0, [.null, .ref q_1, .ref q_2, .ref q_3, .null])), (q_1, .inl (cI, 12, .inl (fun _ => 0))), (q_2, .inl (cI, 72, .inl (fun _ => 0))), (q_3, .inl (cI, 72, .inl (fun _ => 0)))] H := hP
  have hD : va_D (A) [(h0, .inr (0, [.null, .ref q_1, .ref q_2, .ref q_3, .null])), (q_1, .inl (cI, 12, .inl (fun _ => 0))), (q_2, .inl (cI, 72, .inl (fun _ => 0))), (q_3, .inl (cI, 72, .inl (fun _ => 0)))] := hD
  refine lv_aload_n hx hb dX0_init_28 rfl (lv_at hl 0 rfl) ?_
  refine lv_bipush (v := 12) hx hb dX0_init_29 (by decide) ?_
  refine va_newa (atype := .int) (ty := .int) (N' := 12) (a0 := (12, .inl (fun _ => 0))) hx hb (hts (.arrayClass .int) (pl_m 6 (by decide +kernel))) rfl hK hP hD hS hA (fun _ => rfl) (by decide) (by decide +kernel) (Nat.le_of_ble_eq_true rfl) (Nat.le_of_ble_eq_true rfl) (Nat.le_of_ble_eq_true rfl) dX0_init_31 (fun q_4 cA H hK1 hP hD hS => ?_)
  obtain rfl := pn_sameI hK1
  clear hK1
  have hP : va_P D vwCl [(h0, .inr (0, [.null, .ref q_1, .ref q_2, .ref q_3, .null])), (q_1, .inl (cI, 12, .inl (fun _ => 0))), (q_2, .inl (cI, 72, .inl (fun _ => 0))), (q_3, .inl (cI, 72, .inl (fun _ => 0))), (q_4, .inl (cI, 12, .inl (fun _ => 0)))] H := hP
  have hD : va_D (A) [(h0, .inr (0, [.null, .ref q_1, .ref q_2, .ref q_3, .null])), (q_1, .inl (cI, 12, .inl (fun _ => 0))), (q_2, .inl (cI, 72, .inl (fun _ => 0))), (q_3, .inl (cI, 72, .inl (fun _ => 0))), (q_4, .inl (cI, 12, .inl (fun _ => 0)))] := hD
  refine W.widen (k := 4) (n := 168) (Nat.le_of_ble_eq_true rfl) (Nat.le_of_ble_eq_true rfl) ?_
  refine va_putF (D := D) (ci := 0) (v := .ref q_4) (ty := (.array .int)) (C := RX0) (T := TX0) (N := 5) hx hb hts inlX0 tyX0 tyX0_ok nmX0 hown hK hP hD hS 0 rfl rfl 4 (by decide) (hts (.fieldLink RX0 21 "VtableTown$Finder" "lengths" "[I") (pl_m 76 (by decide +kernel))) (fun _ h9 => h9) rfl hin rfl (by decide +kernel) rfl rfl (Nat.le_of_ble_eq_true rfl) dX0_init_33 (fun H locs hP hD hS => ?_)
  have hP : va_P D vwCl [(h0, .inr (0, [.null, .ref q_1, .ref q_2, .ref q_3, .ref q_4])), (q_1, .inl (cI, 12, .inl (fun _ => 0))), (q_2, .inl (cI, 72, .inl (fun _ => 0))), (q_3, .inl (cI, 72, .inl (fun _ => 0))), (q_4, .inl (cI, 12, .inl (fun _ => 0)))] H := hP
  have hD : va_D (A) [(h0, .inr (0, [.null, .ref q_1, .ref q_2, .ref q_3, .ref q_4])), (q_1, .inl (cI, 12, .inl (fun _ => 0))), (q_2, .inl (cI, 72, .inl (fun _ => 0))), (q_3, .inl (cI, 72, .inl (fun _ => 0))), (q_4, .inl (cI, 12, .inl (fun _ => 0)))] := hD
  refine lv_aload_n hx hb dX0_init_36 rfl (lv_at hl 0 rfl) ?_
  refine lv_aload_n hx hb dX0_init_37 rfl (lv_at hl 1 rfl) ?_
  refine va_putF (D := D) (ci := 0) (v := .ref t) (ty := (.object "VtableTown$Told")) (C := RX0) (T := TX0) (N := 5) hx hb hts inlX0 tyX0 tyX0_ok nmX0 hown hK hP hD hS 0 rfl rfl 0 (by decide) (hts (.fieldLink RX0 24 "VtableTown$Finder" "told" "LVtableTown$Told;") (pl_m 77 (by decide +kernel))) (fun _ h9 => h9) rfl hin rfl (by decide +kernel) rfl rfl (Nat.le_of_ble_eq_true rfl) dX0_init_38 (fun H locs hP hD hS => ?_)
  have hP : va_P D vwCl [(h0, .inr (0, [.ref t, .ref q_1, .ref q_2, .ref q_3, .ref q_4])), (q_1, .inl (cI, 12, .inl (fun _ => 0))), (q_2, .inl (cI, 72, .inl (fun _ => 0))), (q_3, .inl (cI, 72, .inl (fun _ => 0))), (q_4, .inl (cI, 12, .inl (fun _ => 0)))] H := hP
  have hD : va_D (A) [(h0, .inr (0, [.ref t, .ref q_1, .ref q_2, .ref q_3, .ref q_4])), (q_1, .inl (cI, 12, .inl (fun _ => 0))), (q_2, .inl (cI, 72, .inl (fun _ => 0))), (q_3, .inl (cI, 72, .inl (fun _ => 0))), (q_4, .inl (cI, 12, .inl (fun _ => 0)))] := hD
  have hP9 := hP.sub (ws' := [(h0, .inr (0, [.ref t, .ref q_1, .ref q_2, .ref q_3, .ref q_4])), (q_1, .inl (cI, 12, .inl (fun _ => 0))), (q_2, .inl (cI, 72, .inl (fun _ => 0))), (q_3, .inl (cI, 72, .inl (fun _ => 0))), (q_4, .inl (cI, 12, .inl (fun _ => 0)))]) [0, 1, 2, 3, 4] rfl
  have hD9 := hD.sub (ws' := [(h0, .inr (0, [.ref t, .ref q_1, .ref q_2, .ref q_3, .ref q_4])), (q_1, .inl (cI, 12, .inl (fun _ => 0))), (q_2, .inl (cI, 72, .inl (fun _ => 0))), (q_3, .inl (cI, 72, .inl (fun _ => 0))), (q_4, .inl (cI, 12, .inl (fun _ => 0)))]) [0, 1, 2, 3, 4] (by decide) rfl
  exact W.vret hx hb hr (fun tz_ ht hW => ⟨⟨(fun k => ([q_1, q_2, q_3, q_4] : List Nat).getD k 0), rfl, (by first | exact trivial | omega | (simp only [Int32.reduceToInt] at *; omega) | decide), (by rw [ht]; exact hP9), hD9⟩, hS.F ht⟩) hS.2.2 dX0_init_41
set_option maxHeartbeats 4000000 in
set_option maxRecDepth 100000 in
theorem c_X2_init (l : Launch) (D : va_G) (cI cZ cJ cG : ClassId) (sz : Nat) (h0 : Nat) : Met l yX2_init (pl_h yX2_init cX2_init 1 none) ({ frames := 1, cells := 12, slots := 3096, locals := 12 }) (va_Pc [.ref h0] (pn_M D (pn_Y cI cZ cJ cG) [(h0, .inr (2, [.int 0, .int 0, .long 0, .int 0, .int 0, .null, .null, .null, .null, .null, .null, .null, .null, .null, .null, .null, .null]))] sz)) (va_Qv (fun (u : Nat → Nat) => True) (fun u tz_ => va_P D vwCl [(h0, .inr (2, [.int 0, .int 0, .long 0, .int 0, .int 0, .ref (u 0), .ref (u 1), .ref (u 2), .ref (u 3), .ref (u 4), .ref (u 5), .ref (u 6), .ref (u 7), .ref (u 8), .ref (u 9), .ref (u 10), .ref (u 11)])), ((u 0), .inl (cI, 12, .inl (fun _ => 0))), ((u 1), .inl (cI, 12, .inl (fun _ => 0))), ((u 2), .inl (cI, 12, .inl (fun _ => 0))), ((u 3), .inl (cI, 12, .inl (fun _ => 0))), ((u 4), .inl (cI, 12, .inl (fun _ => 0))), ((u 5), .inl (cI, 12, .inl (fun _ => 0))), ((u 6), .inl (cI, 504, .inl (fun _ => 0))), ((u 7), .inl (cI, 504, .inl (fun _ => 0))), ((u 8), .inl (cI, 504, .inl (fun _ => 0))), ((u 9), .inl (cI, 504, .inl (fun _ => 0))), ((u 10), .inl (cI, 504, .inl (fun _ => 0))), ((u 11), .inl (cI, 504, .inl (fun _ => 0)))] tz_.heap ∧ va_D (va_A [(h0, .inr (2, [.int 0, .int 0, .long 0, .int 0, .int 0, .null, .null, .null, .null, .null, .null, .null, .null, .null, .null, .null, .null]))] sz) [(h0, .inr (2, [.int 0, .int 0, .long 0, .int 0, .int 0, .ref (u 0), .ref (u 1), .ref (u 2), .ref (u 3), .ref (u 4), .ref (u 5), .ref (u 6), .ref (u 7), .ref (u 8), .ref (u 9), .ref (u 10), .ref (u 11)])), ((u 0), .inl (cI, 12, .inl (fun _ => 0))), ((u 1), .inl (cI, 12, .inl (fun _ => 0))), ((u 2), .inl (cI, 12, .inl (fun _ => 0))), ((u 3), .inl (cI, 12, .inl (fun _ => 0))), ((u 4), .inl (cI, 12, .inl (fun _ => 0))), ((u 5), .inl (cI, 12, .inl (fun _ => 0))), ((u 6), .inl (cI, 504, .inl (fun _ => 0))), ((u 7), .inl (cI, 504, .inl (fun _ => 0))), ((u 8), .inl (cI, 504, .inl (fun _ => 0))), ((u 9), .inl (cI, 504, .inl (fun _ => 0))), ((u 10), .inl (cI, 504, .inl (fun _ => 0))), ((u 11), .inl (cI, 504, .inl (fun _ => 0)))]) (va_A [(h0, .inr (2, [.int 0, .int 0, .long 0, .int 0, .int 0, .null, .null, .null, .null, .null, .null, .null, .null, .null, .null, .null, .null]))] sz)) 12 3096 (va_A [(h0, .inr (2, [.int 0, .int 0, .long 0, .int 0, .int 0, .null, .null, .null, .null, .null, .null, .null, .null, .null, .null, .null, .null]))] sz) := by
  refine Met.ofW (cc := cX2_init) (maxL := 1) (ret := none) (by decide) rfl ?_
  intro p e s m args below meth c s₁ B hml hv
  obtain ⟨rfl, hsz, hP, hK, hD0⟩ := hv
  have hx := B.exec
  have hb := B.bytes
  have hr := B.returns
  have hts0 := atoms_spec (ws := pl_h yX2_init cX2_init 1 none) B.pre
  have hts := fun (w : Cond) (h : w ∈ pw_all) => hts0 w (List.mem_cons_of_mem _ h)
  have hown : s.vm.findClass RX2 = some m.cls := findClass_of_methodNamed B.named
  have hlocks := B.notSynchronized
  have hin : meth.name = "<init>" := (name_of_methodNamed B.named B.method).1
  subst hsz
  have hD := hD0.self (sz := s.heap.size)
  generalize hAe : va_A [(h0, .inr (2, [.int 0, .int 0, .long 0, .int 0, .int 0, .null, .null, .null, .null, .null, .null, .null, .null, .null, .null, .null, .null]))] s.heap.size = A at hD ⊢
  have hA : ∀ q : Nat, s.heap.size ≤ q → A q := fun q h => by rw [← hAe]; exact Or.inr h
  have hS : va_S A s.heap s.heap [] := va_S.rf
  have hl := lv_entry ([.ref h0]) (n := 1) (Nat.le_of_ble_eq_true rfl)
  rw [lg_entry_eq]
  generalize (lg_sl ([.ref h0]) ++ List.replicate (1 - (lg_sl ([.ref h0])).length) Slot.unset).toArray = ls at hl ⊢
  have hl : lv_has ls 1 [(0, .ref h0)] := hl
  refine lv_aload_n hx hb dX2_init_0 rfl (lv_at hl 0 rfl) ?_
  refine W.objInit hx hb hown (hts (.methodLink RX2 3 objectInit) (pl_m 80 (by decide +kernel))) (hts (.instanceMethod objectInit) (pl_m 11 (by decide +kernel))) (hts (.code objectInit ⟨#[0xb1]⟩ 1 none) (pl_m 12 (by decide +kernel))) rfl (by rw [hml]; exact hl.1) rfl dX2_init_1 (Nat.le_of_ble_eq_true rfl) (Nat.le_of_ble_eq_true rfl) ?_
  refine W.eq (g2 := F0 m 4 ls []) rfl ?_
  refine lv_aload_n hx hb dX2_init_4 rfl (lv_at hl 0 rfl) ?_
  refine lv_bipush (v := 12) hx hb dX2_init_5 (by decide) ?_
  refine va_newa (atype := .int) (ty := .int) (N' := 12) (a0 := (12, .inl (fun _ => 0))) hx hb (hts (.arrayClass .int) (pl_m 6 (by decide +kernel))) rfl hK hP hD hS hA (fun _ => rfl) (by decide) (by decide +kernel) (Nat.le_of_ble_eq_true rfl) (Nat.le_of_ble_eq_true rfl) (Nat.le_of_ble_eq_true rfl) dX2_init_7 (fun q_1 cA H hK1 hP hD hS => ?_)
  obtain rfl := pn_sameI hK1
  clear hK1
  have hP : va_P D vwCl [(h0, .inr (2, [.int 0, .int 0, .long 0, .int 0, .int 0, .null, .null, .null, .null, .null, .null, .null, .null, .null, .null, .null, .null])), (q_1, .inl (cI, 12, .inl (fun _ => 0)))] H := hP
  have hD : va_D (A) [(h0, .inr (2, [.int 0, .int 0, .long 0, .int 0, .int 0, .null, .null, .null, .null, .null, .null, .null, .null, .null, .null, .null, .null])), (q_1, .inl (cI, 12, .inl (fun _ => 0)))] := hD
  refine W.widen (k := 1) (n := 12) (Nat.le_of_ble_eq_true rfl) (Nat.le_of_ble_eq_true rfl) ?_
  refine va_putF (D := D) (ci := 2) (v := .ref q_1) (ty := (.array .int)) (C := RX2) (T := TX2) (N := 17) hx hb hts inlX2 tyX2 tyX2_ok nmX2 hown hK hP hD hS 0 rfl rfl 5 (by decide) (hts (.fieldLink RX2 9 "VtableTown$State" "status" "[I") (pl_m 81 (by decide +kernel))) (fun _ h9 => h9) rfl hin rfl (by decide +kernel) rfl rfl (Nat.le_of_ble_eq_true rfl) dX2_init_9 (fun H locs hP hD hS => ?_)
  have hP : va_P D vwCl [(h0, .inr (2, [.int 0, .int 0, .long 0, .int 0, .int 0, .ref q_1, .null, .null, .null, .null, .null, .null, .null, .null, .null, .null, .null])), (q_1, .inl (cI, 12, .inl (fun _ => 0)))] H := hP
  have hD : va_D (A) [(h0, .inr (2, [.int 0, .int 0, .long 0, .int 0, .int 0, .ref q_1, .null, .null, .null, .null, .null, .null, .null, .null, .null, .null, .null])), (q_1, .inl (cI, 12, .inl (fun _ => 0)))] := hD
  refine lv_aload_n hx hb dX2_init_12 rfl (lv_at hl 0 rfl) ?_
  refine lv_bipush (v := 12) hx hb dX2_init_13 (by decide) ?_
  refine va_newa (atype := .int) (ty := .int) (N' := 12) (a0 := (12, .inl (fun _ => 0))) hx hb (hts (.arrayClass .int) (pl_m 6 (by decide +kernel))) rfl hK hP hD hS hA (fun _ => rfl) (by decide) (by decide +kernel) (Nat.le_of_ble_eq_true rfl) (Nat.le_of_ble_eq_true rfl) (Nat.le_of_ble_eq_true rfl) dX2_init_15 (fun q_2 cA H hK1 hP hD hS => ?_)
  obtain rfl := pn_sameI hK1
  clear hK1
  have hP : va_P D vwCl [(h0, .inr (2, [.int 0, .int 0, .long 0, .int 0, .int 0, .ref q_1, .null, .null, .null, .null, .null, .null, .null, .null, .null, .null, .null])), (q_1, .inl (cI, 12, .inl (fun _ => 0))), (q_2, .inl (cI, 12, .inl (fun _ => 0)))] H := hP
  have hD : va_D (A) [(h0, .inr (2, [.int 0, .int 0, .long 0, .int 0, .int 0, .ref q_1, .null, .null, .null, .null, .null, .null, .null, .null, .null, .null, .null])), (q_1, .inl (cI, 12, .inl (fun _ => 0))), (q_2, .inl (cI, 12, .inl (fun _ => 0)))] := hD
  refine W.widen (k := 2) (n := 24) (Nat.le_of_ble_eq_true rfl) (Nat.le_of_ble_eq_true rfl) ?_
  refine va_putF (D := D) (ci := 2) (v := .ref q_2) (ty := (.array .int)) (C := RX2) (T := TX2) (N := 17) hx hb hts inlX2 tyX2 tyX2_ok nmX2 hown hK hP hD hS 0 rfl rfl 6 (by decide) (hts (.fieldLink RX2 15 "VtableTown$State" "faults" "[I") (pl_m 82 (by decide +kernel))) (fun _ h9 => h9) rfl hin rfl (by decide +kernel) rfl rfl (Nat.le_of_ble_eq_true rfl) dX2_init_17 (fun H locs hP hD hS => ?_)
  have hP : va_P D vwCl [(h0, .inr (2, [.int 0, .int 0, .long 0, .int 0, .int 0, .ref q_1, .ref q_2, .null, .null, .null, .null, .null, .null, .null, .null, .null, .null])), (q_1, .inl (cI, 12, .inl (fun _ => 0))), (q_2, .inl (cI, 12, .inl (fun _ => 0)))] H := hP
  have hD : va_D (A) [(h0, .inr (2, [.int 0, .int 0, .long 0, .int 0, .int 0, .ref q_1, .ref q_2, .null, .null, .null, .null, .null, .null, .null, .null, .null, .null])), (q_1, .inl (cI, 12, .inl (fun _ => 0))), (q_2, .inl (cI, 12, .inl (fun _ => 0)))] := hD
  refine lv_aload_n hx hb dX2_init_20 rfl (lv_at hl 0 rfl) ?_
  refine lv_bipush (v := 12) hx hb dX2_init_21 (by decide) ?_
  refine va_newa (atype := .int) (ty := .int) (N' := 12) (a0 := (12, .inl (fun _ => 0))) hx hb (hts (.arrayClass .int) (pl_m 6 (by decide +kernel))) rfl hK hP hD hS hA (fun _ => rfl) (by decide) (by decide +kernel) (Nat.le_of_ble_eq_true rfl) (Nat.le_of_ble_eq_true rfl) (Nat.le_of_ble_eq_true rfl) dX2_init_23 (fun q_3 cA H hK1 hP hD hS => ?_)
  obtain rfl := pn_sameI hK1
  clear hK1
  have hP : va_P D vwCl [(h0, .inr (2, [.int 0, .int 0, .long 0, .int 0, .int 0, .ref q_1, .ref q_2, .null, .null, .null, .null, .null, .null, .null, .null, .null, .null])), (q_1, .inl (cI, 12, .inl (fun _ => 0))), (q_2, .inl (cI, 12, .inl (fun _ => 0))), (q_3, .inl (cI, 12, .inl (fun _ => 0)))] H := hP
  have hD : va_D (A) [(h0, .inr (2, [.int 0, .int 0, .long 0, .int 0, .int 0, .ref q_1, .ref q_2, .null, .null, .null, .null, .null, .null, .null, .null, .null, .null])), (q_1, .inl (cI, 12, .inl (fun _ => 0))), (q_2, .inl (cI, 12, .inl (fun _ => 0))), (q_3, .inl (cI, 12, .inl (fun _ => 0)))] := hD
  refine W.widen (k := 3) (n := 36) (Nat.le_of_ble_eq_true rfl) (Nat.le_of_ble_eq_true rfl) ?_
  refine va_putF (D := D) (ci := 2) (v := .ref q_3) (ty := (.array .int)) (C := RX2) (T := TX2) (N := 17) hx hb hts inlX2 tyX2 tyX2_ok nmX2 hown hK hP hD hS 0 rfl rfl 7 (by decide) (hts (.fieldLink RX2 18 "VtableTown$State" "wakes" "[I") (pl_m 83 (by decide +kernel))) (fun _ h9 => h9) rfl hin rfl (by decide +kernel) rfl rfl (Nat.le_of_ble_eq_true rfl) dX2_init_25 (fun H locs hP hD hS => ?_)
  have hP : va_P D vwCl [(h0, .inr (2, [.int 0, .int 0, .long 0, .int 0, .int 0, .ref q_1, .ref q_2, .ref q_3, .null, .null, .null, .null, .null, .null, .null, .null, .null])), (q_1, .inl (cI, 12, .inl (fun _ => 0))), (q_2, .inl (cI, 12, .inl (fun _ => 0))), (q_3, .inl (cI, 12, .inl (fun _ => 0)))] H := hP
  have hD : va_D (A) [(h0, .inr (2, [.int 0, .int 0, .long 0, .int 0, .int 0, .ref q_1, .ref q_2, .ref q_3, .null, .null, .null, .null, .null, .null, .null, .null, .null])), (q_1, .inl (cI, 12, .inl (fun _ => 0))), (q_2, .inl (cI, 12, .inl (fun _ => 0))), (q_3, .inl (cI, 12, .inl (fun _ => 0)))] := hD
  refine lv_aload_n hx hb dX2_init_28 rfl (lv_at hl 0 rfl) ?_
  refine lv_bipush (v := 12) hx hb dX2_init_29 (by decide) ?_
  refine va_newa (atype := .int) (ty := .int) (N' := 12) (a0 := (12, .inl (fun _ => 0))) hx hb (hts (.arrayClass .int) (pl_m 6 (by decide +kernel))) rfl hK hP hD hS hA (fun _ => rfl) (by decide) (by decide +kernel) (Nat.le_of_ble_eq_true rfl) (Nat.le_of_ble_eq_true rfl) (Nat.le_of_ble_eq_true rfl) dX2_init_31 (fun q_4 cA H hK1 hP hD hS => ?_)
  obtain rfl := pn_sameI hK1
  clear hK1
  have hP : va_P D vwCl [(h0, .inr (2, [.int 0, .int 0, .long 0, .int 0, .int 0, .ref q_1, .ref q_2, .ref q_3, .null, .null, .null, .null, .null, .null, .null, .null, .null])), (q_1, .inl (cI, 12, .inl (fun _ => 0))), (q_2, .inl (cI, 12, .inl (fun _ => 0))), (q_3, .inl (cI, 12, .inl (fun _ => 0))), (q_4, .inl (cI, 12, .inl (fun _ => 0)))] H := hP
  have hD : va_D (A) [(h0, .inr (2, [.int 0, .int 0, .long 0, .int 0, .int 0, .ref q_1, .ref q_2, .ref q_3, .null, .null, .null, .null, .null, .null, .null, .null, .null])), (q_1, .inl (cI, 12, .inl (fun _ => 0))), (q_2, .inl (cI, 12, .inl (fun _ => 0))), (q_3, .inl (cI, 12, .inl (fun _ => 0))), (q_4, .inl (cI, 12, .inl (fun _ => 0)))] := hD
  refine W.widen (k := 4) (n := 48) (Nat.le_of_ble_eq_true rfl) (Nat.le_of_ble_eq_true rfl) ?_
  refine va_putF (D := D) (ci := 2) (v := .ref q_4) (ty := (.array .int)) (C := RX2) (T := TX2) (N := 17) hx hb hts inlX2 tyX2 tyX2_ok nmX2 hown hK hP hD hS 0 rfl rfl 8 (by decide) (hts (.fieldLink RX2 21 "VtableTown$State" "statics" "[I") (pl_m 84 (by decide +kernel))) (fun _ h9 => h9) rfl hin rfl (by decide +kernel) rfl rfl (Nat.le_of_ble_eq_true rfl) dX2_init_33 (fun H locs hP hD hS => ?_)
  have hP : va_P D vwCl [(h0, .inr (2, [.int 0, .int 0, .long 0, .int 0, .int 0, .ref q_1, .ref q_2, .ref q_3, .ref q_4, .null, .null, .null, .null, .null, .null, .null, .null])), (q_1, .inl (cI, 12, .inl (fun _ => 0))), (q_2, .inl (cI, 12, .inl (fun _ => 0))), (q_3, .inl (cI, 12, .inl (fun _ => 0))), (q_4, .inl (cI, 12, .inl (fun _ => 0)))] H := hP
  have hD : va_D (A) [(h0, .inr (2, [.int 0, .int 0, .long 0, .int 0, .int 0, .ref q_1, .ref q_2, .ref q_3, .ref q_4, .null, .null, .null, .null, .null, .null, .null, .null])), (q_1, .inl (cI, 12, .inl (fun _ => 0))), (q_2, .inl (cI, 12, .inl (fun _ => 0))), (q_3, .inl (cI, 12, .inl (fun _ => 0))), (q_4, .inl (cI, 12, .inl (fun _ => 0)))] := hD
  refine lv_aload_n hx hb dX2_init_36 rfl (lv_at hl 0 rfl) ?_
  refine lv_bipush (v := 12) hx hb dX2_init_37 (by decide) ?_
  refine va_newa (atype := .int) (ty := .int) (N' := 12) (a0 := (12, .inl (fun _ => 0))) hx hb (hts (.arrayClass .int) (pl_m 6 (by decide +kernel))) rfl hK hP hD hS hA (fun _ => rfl) (by decide) (by decide +kernel) (Nat.le_of_ble_eq_true rfl) (Nat.le_of_ble_eq_true rfl) (Nat.le_of_ble_eq_true rfl) dX2_init_39 (fun q_5 cA H hK1 hP hD hS => ?_)
  obtain rfl := pn_sameI hK1
  clear hK1
  have hP : va_P D vwCl [(h0, .inr (2, [.int 0, .int 0, .long 0, .int 0, .int 0, .ref q_1, .ref q_2, .ref q_3, .ref q_4, .null, .null, .null, .null, .null, .null, .null, .null])), (q_1, .inl (cI, 12, .inl (fun _ => 0))), (q_2, .inl (cI, 12, .inl (fun _ => 0))), (q_3, .inl (cI, 12, .inl (fun _ => 0))), (q_4, .inl (cI, 12, .inl (fun _ => 0))), (q_5, .inl (cI, 12, .inl (fun _ => 0)))] H := hP
  have hD : va_D (A) [(h0, .inr (2, [.int 0, .int 0, .long 0, .int 0, .int 0, .ref q_1, .ref q_2, .ref q_3, .ref q_4, .null, .null, .null, .null, .null, .null, .null, .null])), (q_1, .inl (cI, 12, .inl (fun _ => 0))), (q_2, .inl (cI, 12, .inl (fun _ => 0))), (q_3, .inl (cI, 12, .inl (fun _ => 0))), (q_4, .inl (cI, 12, .inl (fun _ => 0))), (q_5, .inl (cI, 12, .inl (fun _ => 0)))] := hD
  refine W.widen (k := 5) (n := 60) (Nat.le_of_ble_eq_true rfl) (Nat.le_of_ble_eq_true rfl) ?_
  refine va_putF (D := D) (ci := 2) (v := .ref q_5) (ty := (.array .int)) (C := RX2) (T := TX2) (N := 17) hx hb hts inlX2 tyX2 tyX2_ok nmX2 hown hK hP hD hS 0 rfl rfl 9 (by decide) (hts (.fieldLink RX2 24 "VtableTown$State" "made" "[I") (pl_m 85 (by decide +kernel))) (fun _ h9 => h9) rfl hin rfl (by decide +kernel) rfl rfl (Nat.le_of_ble_eq_true rfl) dX2_init_41 (fun H locs hP hD hS => ?_)
  have hP : va_P D vwCl [(h0, .inr (2, [.int 0, .int 0, .long 0, .int 0, .int 0, .ref q_1, .ref q_2, .ref q_3, .ref q_4, .ref q_5, .null, .null, .null, .null, .null, .null, .null])), (q_1, .inl (cI, 12, .inl (fun _ => 0))), (q_2, .inl (cI, 12, .inl (fun _ => 0))), (q_3, .inl (cI, 12, .inl (fun _ => 0))), (q_4, .inl (cI, 12, .inl (fun _ => 0))), (q_5, .inl (cI, 12, .inl (fun _ => 0)))] H := hP
  have hD : va_D (A) [(h0, .inr (2, [.int 0, .int 0, .long 0, .int 0, .int 0, .ref q_1, .ref q_2, .ref q_3, .ref q_4, .ref q_5, .null, .null, .null, .null, .null, .null, .null])), (q_1, .inl (cI, 12, .inl (fun _ => 0))), (q_2, .inl (cI, 12, .inl (fun _ => 0))), (q_3, .inl (cI, 12, .inl (fun _ => 0))), (q_4, .inl (cI, 12, .inl (fun _ => 0))), (q_5, .inl (cI, 12, .inl (fun _ => 0)))] := hD
  refine lv_aload_n hx hb dX2_init_44 rfl (lv_at hl 0 rfl) ?_
  refine lv_bipush (v := 12) hx hb dX2_init_45 (by decide) ?_
  refine va_newa (atype := .int) (ty := .int) (N' := 12) (a0 := (12, .inl (fun _ => 0))) hx hb (hts (.arrayClass .int) (pl_m 6 (by decide +kernel))) rfl hK hP hD hS hA (fun _ => rfl) (by decide) (by decide +kernel) (Nat.le_of_ble_eq_true rfl) (Nat.le_of_ble_eq_true rfl) (Nat.le_of_ble_eq_true rfl) dX2_init_47 (fun q_6 cA H hK1 hP hD hS => ?_)
  obtain rfl := pn_sameI hK1
  clear hK1
  have hP : va_P D vwCl [(h0, .inr (2, [.int 0, .int 0, .long 0, .int 0, .int 0, .ref q_1, .ref q_2, .ref q_3, .ref q_4, .ref q_5, .null, .null, .null, .null, .null, .null, .null])), (q_1, .inl (cI, 12, .inl (fun _ => 0))), (q_2, .inl (cI, 12, .inl (fun _ => 0))), (q_3, .inl (cI, 12, .inl (fun _ => 0))), (q_4, .inl (cI, 12, .inl (fun _ => 0))), (q_5, .inl (cI, 12, .inl (fun _ => 0))), (q_6, .inl (cI, 12, .inl (fun _ => 0)))] H := hP
  have hD : va_D (A) [(h0, .inr (2, [.int 0, .int 0, .long 0, .int 0, .int 0, .ref q_1, .ref q_2, .ref q_3, .ref q_4, .ref q_5, .null, .null, .null, .null, .null, .null, .null])), (q_1, .inl (cI, 12, .inl (fun _ => 0))), (q_2, .inl (cI, 12, .inl (fun _ => 0))), (q_3, .inl (cI, 12, .inl (fun _ => 0))), (q_4, .inl (cI, 12, .inl (fun _ => 0))), (q_5, .inl (cI, 12, .inl (fun _ => 0))), (q_6, .inl (cI, 12, .inl (fun _ => 0)))] := hD
  refine W.widen (k := 6) (n := 72) (Nat.le_of_ble_eq_true rfl) (Nat.le_of_ble_eq_true rfl) ?_
  refine va_putF (D := D) (ci := 2) (v := .ref q_6) (ty := (.array .int)) (C := RX2) (T := TX2) (N := 17) hx hb hts inlX2 tyX2 tyX2_ok nmX2 hown hK hP hD hS 0 rfl rfl 10 (by decide) (hts (.fieldLink RX2 27 "VtableTown$State" "orders" "[I") (pl_m 86 (by decide +kernel))) (fun _ h9 => h9) rfl hin rfl (by decide +kernel) rfl rfl (Nat.le_of_ble_eq_true rfl) dX2_init_49 (fun H locs hP hD hS => ?_)
  have hP : va_P D vwCl [(h0, .inr (2, [.int 0, .int 0, .long 0, .int 0, .int 0, .ref q_1, .ref q_2, .ref q_3, .ref q_4, .ref q_5, .ref q_6, .null, .null, .null, .null, .null, .null])), (q_1, .inl (cI, 12, .inl (fun _ => 0))), (q_2, .inl (cI, 12, .inl (fun _ => 0))), (q_3, .inl (cI, 12, .inl (fun _ => 0))), (q_4, .inl (cI, 12, .inl (fun _ => 0))), (q_5, .inl (cI, 12, .inl (fun _ => 0))), (q_6, .inl (cI, 12, .inl (fun _ => 0)))] H := hP
  have hD : va_D (A) [(h0, .inr (2, [.int 0, .int 0, .long 0, .int 0, .int 0, .ref q_1, .ref q_2, .ref q_3, .ref q_4, .ref q_5, .ref q_6, .null, .null, .null, .null, .null, .null])), (q_1, .inl (cI, 12, .inl (fun _ => 0))), (q_2, .inl (cI, 12, .inl (fun _ => 0))), (q_3, .inl (cI, 12, .inl (fun _ => 0))), (q_4, .inl (cI, 12, .inl (fun _ => 0))), (q_5, .inl (cI, 12, .inl (fun _ => 0))), (q_6, .inl (cI, 12, .inl (fun _ => 0)))] := hD
  refine lv_aload_n hx hb dX2_init_52 rfl (lv_at hl 0 rfl) ?_
  refine lv_sipush (v := 504) hx hb dX2_init_53 (by decide) ?_
  refine va_newa (atype := .int) (ty := .int) (N' := 504) (a0 := (504, .inl (fun _ => 0))) hx hb (hts (.arrayClass .int) (pl_m 6 (by decide +kernel))) rfl hK hP hD hS hA (fun _ => rfl) (by decide) (by decide +kernel) (Nat.le_of_ble_eq_true rfl) (Nat.le_of_ble_eq_true rfl) (Nat.le_of_ble_eq_true rfl) dX2_init_56 (fun q_7 cA H hK1 hP hD hS => ?_)
  obtain rfl := pn_sameI hK1
  clear hK1
  have hP : va_P D vwCl [(h0, .inr (2, [.int 0, .int 0, .long 0, .int 0, .int 0, .ref q_1, .ref q_2, .ref q_3, .ref q_4, .ref q_5, .ref q_6, .null, .null, .null, .null, .null, .null])), (q_1, .inl (cI, 12, .inl (fun _ => 0))), (q_2, .inl (cI, 12, .inl (fun _ => 0))), (q_3, .inl (cI, 12, .inl (fun _ => 0))), (q_4, .inl (cI, 12, .inl (fun _ => 0))), (q_5, .inl (cI, 12, .inl (fun _ => 0))), (q_6, .inl (cI, 12, .inl (fun _ => 0))), (q_7, .inl (cI, 504, .inl (fun _ => 0)))] H := hP
  have hD : va_D (A) [(h0, .inr (2, [.int 0, .int 0, .long 0, .int 0, .int 0, .ref q_1, .ref q_2, .ref q_3, .ref q_4, .ref q_5, .ref q_6, .null, .null, .null, .null, .null, .null])), (q_1, .inl (cI, 12, .inl (fun _ => 0))), (q_2, .inl (cI, 12, .inl (fun _ => 0))), (q_3, .inl (cI, 12, .inl (fun _ => 0))), (q_4, .inl (cI, 12, .inl (fun _ => 0))), (q_5, .inl (cI, 12, .inl (fun _ => 0))), (q_6, .inl (cI, 12, .inl (fun _ => 0))), (q_7, .inl (cI, 504, .inl (fun _ => 0)))] := hD
  refine W.widen (k := 7) (n := 576) (Nat.le_of_ble_eq_true rfl) (Nat.le_of_ble_eq_true rfl) ?_
  refine va_putF (D := D) (ci := 2) (v := .ref q_7) (ty := (.array .int)) (C := RX2) (T := TX2) (N := 17) hx hb hts inlX2 tyX2 tyX2_ok nmX2 hown hK hP hD hS 0 rfl rfl 11 (by decide) (hts (.fieldLink RX2 30 "VtableTown$State" "direct" "[I") (pl_m 87 (by decide +kernel))) (fun _ h9 => h9) rfl hin rfl (by decide +kernel) rfl rfl (Nat.le_of_ble_eq_true rfl) dX2_init_58 (fun H locs hP hD hS => ?_)
  have hP : va_P D vwCl [(h0, .inr (2, [.int 0, .int 0, .long 0, .int 0, .int 0, .ref q_1, .ref q_2, .ref q_3, .ref q_4, .ref q_5, .ref q_6, .ref q_7, .null, .null, .null, .null, .null])), (q_1, .inl (cI, 12, .inl (fun _ => 0))), (q_2, .inl (cI, 12, .inl (fun _ => 0))), (q_3, .inl (cI, 12, .inl (fun _ => 0))), (q_4, .inl (cI, 12, .inl (fun _ => 0))), (q_5, .inl (cI, 12, .inl (fun _ => 0))), (q_6, .inl (cI, 12, .inl (fun _ => 0))), (q_7, .inl (cI, 504, .inl (fun _ => 0)))] H := hP
  have hD : va_D (A) [(h0, .inr (2, [.int 0, .int 0, .long 0, .int 0, .int 0, .ref q_1, .ref q_2, .ref q_3, .ref q_4, .ref q_5, .ref q_6, .ref q_7, .null, .null, .null, .null, .null])), (q_1, .inl (cI, 12, .inl (fun _ => 0))), (q_2, .inl (cI, 12, .inl (fun _ => 0))), (q_3, .inl (cI, 12, .inl (fun _ => 0))), (q_4, .inl (cI, 12, .inl (fun _ => 0))), (q_5, .inl (cI, 12, .inl (fun _ => 0))), (q_6, .inl (cI, 12, .inl (fun _ => 0))), (q_7, .inl (cI, 504, .inl (fun _ => 0)))] := hD
  refine lv_aload_n hx hb dX2_init_61 rfl (lv_at hl 0 rfl) ?_
  refine lv_sipush (v := 504) hx hb dX2_init_62 (by decide) ?_
  refine va_newa (atype := .int) (ty := .int) (N' := 504) (a0 := (504, .inl (fun _ => 0))) hx hb (hts (.arrayClass .int) (pl_m 6 (by decide +kernel))) rfl hK hP hD hS hA (fun _ => rfl) (by decide) (by decide +kernel) (Nat.le_of_ble_eq_true rfl) (Nat.le_of_ble_eq_true rfl) (Nat.le_of_ble_eq_true rfl) dX2_init_65 (fun q_8 cA H hK1 hP hD hS => ?_)
  obtain rfl := pn_sameI hK1
  clear hK1
  have hP : va_P D vwCl [(h0, .inr (2, [.int 0, .int 0, .long 0, .int 0, .int 0, .ref q_1, .ref q_2, .ref q_3, .ref q_4, .ref q_5, .ref q_6, .ref q_7, .null, .null, .null, .null, .null])), (q_1, .inl (cI, 12, .inl (fun _ => 0))), (q_2, .inl (cI, 12, .inl (fun _ => 0))), (q_3, .inl (cI, 12, .inl (fun _ => 0))), (q_4, .inl (cI, 12, .inl (fun _ => 0))), (q_5, .inl (cI, 12, .inl (fun _ => 0))), (q_6, .inl (cI, 12, .inl (fun _ => 0))), (q_7, .inl (cI, 504, .inl (fun _ => 0))), (q_8, .inl (cI, 504, .inl (fun _ => 0)))] H := hP
  have hD : va_D (A) [(h0, .inr (2, [.int 0, .int 0, .long 0, .int 0, .int 0, .ref q_1, .ref q_2, .ref q_3, .ref q_4, .ref q_5, .ref q_6, .ref q_7, .null, .null, .null, .null, .null])), (q_1, .inl (cI, 12, .inl (fun _ => 0))), (q_2, .inl (cI, 12, .inl (fun _ => 0))), (q_3, .inl (cI, 12, .inl (fun _ => 0))), (q_4, .inl (cI, 12, .inl (fun _ => 0))), (q_5, .inl (cI, 12, .inl (fun _ => 0))), (q_6, .inl (cI, 12, .inl (fun _ => 0))), (q_7, .inl (cI, 504, .inl (fun _ => 0))), (q_8, .inl (cI, 504, .inl (fun _ => 0)))] := hD
  refine W.widen (k := 8) (n := 1080) (Nat.le_of_ble_eq_true rfl) (Nat.le_of_ble_eq_true rfl) ?_
  refine va_putF (D := D) (ci := 2) (v := .ref q_8) (ty := (.array .int)) (C := RX2) (T := TX2) (N := 17) hx hb hts inlX2 tyX2 tyX2_ok nmX2 hown hK hP hD hS 0 rfl rfl 12 (by decide) (hts (.fieldLink RX2 33 "VtableTown$State" "caches" "[I") (pl_m 88 (by decide +kernel))) (fun _ h9 => h9) rfl hin rfl (by decide +kernel) rfl rfl (Nat.le_of_ble_eq_true rfl) dX2_init_67 (fun H locs hP hD hS => ?_)
  have hP : va_P D vwCl [(h0, .inr (2, [.int 0, .int 0, .long 0, .int 0, .int 0, .ref q_1, .ref q_2, .ref q_3, .ref q_4, .ref q_5, .ref q_6, .ref q_7, .ref q_8, .null, .null, .null, .null])), (q_1, .inl (cI, 12, .inl (fun _ => 0))), (q_2, .inl (cI, 12, .inl (fun _ => 0))), (q_3, .inl (cI, 12, .inl (fun _ => 0))), (q_4, .inl (cI, 12, .inl (fun _ => 0))), (q_5, .inl (cI, 12, .inl (fun _ => 0))), (q_6, .inl (cI, 12, .inl (fun _ => 0))), (q_7, .inl (cI, 504, .inl (fun _ => 0))), (q_8, .inl (cI, 504, .inl (fun _ => 0)))] H := hP
  have hD : va_D (A) [(h0, .inr (2, [.int 0, .int 0, .long 0, .int 0, .int 0, .ref q_1, .ref q_2, .ref q_3, .ref q_4, .ref q_5, .ref q_6, .ref q_7, .ref q_8, .null, .null, .null, .null])), (q_1, .inl (cI, 12, .inl (fun _ => 0))), (q_2, .inl (cI, 12, .inl (fun _ => 0))), (q_3, .inl (cI, 12, .inl (fun _ => 0))), (q_4, .inl (cI, 12, .inl (fun _ => 0))), (q_5, .inl (cI, 12, .inl (fun _ => 0))), (q_6, .inl (cI, 12, .inl (fun _ => 0))), (q_7, .inl (cI, 504, .inl (fun _ => 0))), (q_8, .inl (cI, 504, .inl (fun _ => 0)))] := hD
  refine lv_aload_n hx hb dX2_init_70 rfl (lv_at hl 0 rfl) ?_
  refine lv_sipush (v := 504) hx hb dX2_init_71 (by decide) ?_
  refine va_newa (atype := .int) (ty := .int) (N' := 504) (a0 := (504, .inl (fun _ => 0))) hx hb (hts (.arrayClass .int) (pl_m 6 (by decide +kernel))) rfl hK hP hD hS hA (fun _ => rfl) (by decide) (by decide +kernel) (Nat.le_of_ble_eq_true rfl) (Nat.le_of_ble_eq_true rfl) (Nat.le_of_ble_eq_true rfl) dX2_init_74 (fun q_9 cA H hK1 hP hD hS => ?_)
  obtain rfl := pn_sameI hK1
  clear hK1
  have hP : va_P D vwCl [(h0, .inr (2, [.int 0, .int 0, .long 0, .int 0, .int 0, .ref q_1, .ref q_2, .ref q_3, .ref q_4, .ref q_5, .ref q_6, .ref q_7, .ref q_8, .null, .null, .null, .null])), (q_1, .inl (cI, 12, .inl (fun _ => 0))), (q_2, .inl (cI, 12, .inl (fun _ => 0))), (q_3, .inl (cI, 12, .inl (fun _ => 0))), (q_4, .inl (cI, 12, .inl (fun _ => 0))), (q_5, .inl (cI, 12, .inl (fun _ => 0))), (q_6, .inl (cI, 12, .inl (fun _ => 0))), (q_7, .inl (cI, 504, .inl (fun _ => 0))), (q_8, .inl (cI, 504, .inl (fun _ => 0))), (q_9, .inl (cI, 504, .inl (fun _ => 0)))] H := hP
  have hD : va_D (A) [(h0, .inr (2, [.int 0, .int 0, .long 0, .int 0, .int 0, .ref q_1, .ref q_2, .ref q_3, .ref q_4, .ref q_5, .ref q_6, .ref q_7, .ref q_8, .null, .null, .null, .null])), (q_1, .inl (cI, 12, .inl (fun _ => 0))), (q_2, .inl (cI, 12, .inl (fun _ => 0))), (q_3, .inl (cI, 12, .inl (fun _ => 0))), (q_4, .inl (cI, 12, .inl (fun _ => 0))), (q_5, .inl (cI, 12, .inl (fun _ => 0))), (q_6, .inl (cI, 12, .inl (fun _ => 0))), (q_7, .inl (cI, 504, .inl (fun _ => 0))), (q_8, .inl (cI, 504, .inl (fun _ => 0))), (q_9, .inl (cI, 504, .inl (fun _ => 0)))] := hD
  refine W.widen (k := 9) (n := 1584) (Nat.le_of_ble_eq_true rfl) (Nat.le_of_ble_eq_true rfl) ?_
  refine va_putF (D := D) (ci := 2) (v := .ref q_9) (ty := (.array .int)) (C := RX2) (T := TX2) (N := 17) hx hb hts inlX2 tyX2 tyX2_ok nmX2 hown hK hP hD hS 0 rfl rfl 13 (by decide) (hts (.fieldLink RX2 36 "VtableTown$State" "hits" "[I") (pl_m 89 (by decide +kernel))) (fun _ h9 => h9) rfl hin rfl (by decide +kernel) rfl rfl (Nat.le_of_ble_eq_true rfl) dX2_init_76 (fun H locs hP hD hS => ?_)
  have hP : va_P D vwCl [(h0, .inr (2, [.int 0, .int 0, .long 0, .int 0, .int 0, .ref q_1, .ref q_2, .ref q_3, .ref q_4, .ref q_5, .ref q_6, .ref q_7, .ref q_8, .ref q_9, .null, .null, .null])), (q_1, .inl (cI, 12, .inl (fun _ => 0))), (q_2, .inl (cI, 12, .inl (fun _ => 0))), (q_3, .inl (cI, 12, .inl (fun _ => 0))), (q_4, .inl (cI, 12, .inl (fun _ => 0))), (q_5, .inl (cI, 12, .inl (fun _ => 0))), (q_6, .inl (cI, 12, .inl (fun _ => 0))), (q_7, .inl (cI, 504, .inl (fun _ => 0))), (q_8, .inl (cI, 504, .inl (fun _ => 0))), (q_9, .inl (cI, 504, .inl (fun _ => 0)))] H := hP
  have hD : va_D (A) [(h0, .inr (2, [.int 0, .int 0, .long 0, .int 0, .int 0, .ref q_1, .ref q_2, .ref q_3, .ref q_4, .ref q_5, .ref q_6, .ref q_7, .ref q_8, .ref q_9, .null, .null, .null])), (q_1, .inl (cI, 12, .inl (fun _ => 0))), (q_2, .inl (cI, 12, .inl (fun _ => 0))), (q_3, .inl (cI, 12, .inl (fun _ => 0))), (q_4, .inl (cI, 12, .inl (fun _ => 0))), (q_5, .inl (cI, 12, .inl (fun _ => 0))), (q_6, .inl (cI, 12, .inl (fun _ => 0))), (q_7, .inl (cI, 504, .inl (fun _ => 0))), (q_8, .inl (cI, 504, .inl (fun _ => 0))), (q_9, .inl (cI, 504, .inl (fun _ => 0)))] := hD
  refine lv_aload_n hx hb dX2_init_79 rfl (lv_at hl 0 rfl) ?_
  refine lv_sipush (v := 504) hx hb dX2_init_80 (by decide) ?_
  refine va_newa (atype := .int) (ty := .int) (N' := 504) (a0 := (504, .inl (fun _ => 0))) hx hb (hts (.arrayClass .int) (pl_m 6 (by decide +kernel))) rfl hK hP hD hS hA (fun _ => rfl) (by decide) (by decide +kernel) (Nat.le_of_ble_eq_true rfl) (Nat.le_of_ble_eq_true rfl) (Nat.le_of_ble_eq_true rfl) dX2_init_83 (fun q_10 cA H hK1 hP hD hS => ?_)
  obtain rfl := pn_sameI hK1
  clear hK1
  have hP : va_P D vwCl [(h0, .inr (2, [.int 0, .int 0, .long 0, .int 0, .int 0, .ref q_1, .ref q_2, .ref q_3, .ref q_4, .ref q_5, .ref q_6, .ref q_7, .ref q_8, .ref q_9, .null, .null, .null])), (q_1, .inl (cI, 12, .inl (fun _ => 0))), (q_2, .inl (cI, 12, .inl (fun _ => 0))), (q_3, .inl (cI, 12, .inl (fun _ => 0))), (q_4, .inl (cI, 12, .inl (fun _ => 0))), (q_5, .inl (cI, 12, .inl (fun _ => 0))), (q_6, .inl (cI, 12, .inl (fun _ => 0))), (q_7, .inl (cI, 504, .inl (fun _ => 0))), (q_8, .inl (cI, 504, .inl (fun _ => 0))), (q_9, .inl (cI, 504, .inl (fun _ => 0))), (q_10, .inl (cI, 504, .inl (fun _ => 0)))] H := hP
  have hD : va_D (A) [(h0, .inr (2, [.int 0, .int 0, .long 0, .int 0, .int 0, .ref q_1, .ref q_2, .ref q_3, .ref q_4, .ref q_5, .ref q_6, .ref q_7, .ref q_8, .ref q_9, .null, .null, .null])), (q_1, .inl (cI, 12, .inl (fun _ => 0))), (q_2, .inl (cI, 12, .inl (fun _ => 0))), (q_3, .inl (cI, 12, .inl (fun _ => 0))), (q_4, .inl (cI, 12, .inl (fun _ => 0))), (q_5, .inl (cI, 12, .inl (fun _ => 0))), (q_6, .inl (cI, 12, .inl (fun _ => 0))), (q_7, .inl (cI, 504, .inl (fun _ => 0))), (q_8, .inl (cI, 504, .inl (fun _ => 0))), (q_9, .inl (cI, 504, .inl (fun _ => 0))), (q_10, .inl (cI, 504, .inl (fun _ => 0)))] := hD
  refine W.widen (k := 10) (n := 2088) (Nat.le_of_ble_eq_true rfl) (Nat.le_of_ble_eq_true rfl) ?_
  refine va_putF (D := D) (ci := 2) (v := .ref q_10) (ty := (.array .int)) (C := RX2) (T := TX2) (N := 17) hx hb hts inlX2 tyX2 tyX2_ok nmX2 hown hK hP hD hS 0 rfl rfl 14 (by decide) (hts (.fieldLink RX2 39 "VtableTown$State" "misses" "[I") (pl_m 90 (by decide +kernel))) (fun _ h9 => h9) rfl hin rfl (by decide +kernel) rfl rfl (Nat.le_of_ble_eq_true rfl) dX2_init_85 (fun H locs hP hD hS => ?_)
  have hP : va_P D vwCl [(h0, .inr (2, [.int 0, .int 0, .long 0, .int 0, .int 0, .ref q_1, .ref q_2, .ref q_3, .ref q_4, .ref q_5, .ref q_6, .ref q_7, .ref q_8, .ref q_9, .ref q_10, .null, .null])), (q_1, .inl (cI, 12, .inl (fun _ => 0))), (q_2, .inl (cI, 12, .inl (fun _ => 0))), (q_3, .inl (cI, 12, .inl (fun _ => 0))), (q_4, .inl (cI, 12, .inl (fun _ => 0))), (q_5, .inl (cI, 12, .inl (fun _ => 0))), (q_6, .inl (cI, 12, .inl (fun _ => 0))), (q_7, .inl (cI, 504, .inl (fun _ => 0))), (q_8, .inl (cI, 504, .inl (fun _ => 0))), (q_9, .inl (cI, 504, .inl (fun _ => 0))), (q_10, .inl (cI, 504, .inl (fun _ => 0)))] H := hP
  have hD : va_D (A) [(h0, .inr (2, [.int 0, .int 0, .long 0, .int 0, .int 0, .ref q_1, .ref q_2, .ref q_3, .ref q_4, .ref q_5, .ref q_6, .ref q_7, .ref q_8, .ref q_9, .ref q_10, .null, .null])), (q_1, .inl (cI, 12, .inl (fun _ => 0))), (q_2, .inl (cI, 12, .inl (fun _ => 0))), (q_3, .inl (cI, 12, .inl (fun _ => 0))), (q_4, .inl (cI, 12, .inl (fun _ => 0))), (q_5, .inl (cI, 12, .inl (fun _ => 0))), (q_6, .inl (cI, 12, .inl (fun _ => 0))), (q_7, .inl (cI, 504, .inl (fun _ => 0))), (q_8, .inl (cI, 504, .inl (fun _ => 0))), (q_9, .inl (cI, 504, .inl (fun _ => 0))), (q_10, .inl (cI, 504, .inl (fun _ => 0)))] := hD
  refine lv_aload_n hx hb dX2_init_88 rfl (lv_at hl 0 rfl) ?_
  refine lv_sipush (v := 504) hx hb dX2_init_89 (by decide) ?_
  refine va_newa (atype := .int) (ty := .int) (N' := 504) (a0 := (504, .inl (fun _ => 0))) hx hb (hts (.arrayClass .int) (pl_m 6 (by decide +kernel))) rfl hK hP hD hS hA (fun _ => rfl) (by decide) (by decide +kernel) (Nat.le_of_ble_eq_true rfl) (Nat.le_of_ble_eq_true rfl) (Nat.le_of_ble_eq_true rfl) dX2_init_92 (fun q_11 cA H hK1 hP hD hS => ?_)
  obtain rfl := pn_sameI hK1
  clear hK1
  have hP : va_P D vwCl [(h0, .inr (2, [.int 0, .int 0, .long 0, .int 0, .int 0, .ref q_1, .ref q_2, .ref q_3, .ref q_4, .ref q_5, .ref q_6, .ref q_7, .ref q_8, .ref q_9, .ref q_10, .null, .null])), (q_1, .inl (cI, 12, .inl (fun _ => 0))), (q_2, .inl (cI, 12, .inl (fun _ => 0))), (q_3, .inl (cI, 12, .inl (fun _ => 0))), (q_4, .inl (cI, 12, .inl (fun _ => 0))), (q_5, .inl (cI, 12, .inl (fun _ => 0))), (q_6, .inl (cI, 12, .inl (fun _ => 0))), (q_7, .inl (cI, 504, .inl (fun _ => 0))), (q_8, .inl (cI, 504, .inl (fun _ => 0))), (q_9, .inl (cI, 504, .inl (fun _ => 0))), (q_10, .inl (cI, 504, .inl (fun _ => 0))), (q_11, .inl (cI, 504, .inl (fun _ => 0)))] H := hP
  have hD : va_D (A) [(h0, .inr (2, [.int 0, .int 0, .long 0, .int 0, .int 0, .ref q_1, .ref q_2, .ref q_3, .ref q_4, .ref q_5, .ref q_6, .ref q_7, .ref q_8, .ref q_9, .ref q_10, .null, .null])), (q_1, .inl (cI, 12, .inl (fun _ => 0))), (q_2, .inl (cI, 12, .inl (fun _ => 0))), (q_3, .inl (cI, 12, .inl (fun _ => 0))), (q_4, .inl (cI, 12, .inl (fun _ => 0))), (q_5, .inl (cI, 12, .inl (fun _ => 0))), (q_6, .inl (cI, 12, .inl (fun _ => 0))), (q_7, .inl (cI, 504, .inl (fun _ => 0))), (q_8, .inl (cI, 504, .inl (fun _ => 0))), (q_9, .inl (cI, 504, .inl (fun _ => 0))), (q_10, .inl (cI, 504, .inl (fun _ => 0))), (q_11, .inl (cI, 504, .inl (fun _ => 0)))] := hD
  refine W.widen (k := 11) (n := 2592) (Nat.le_of_ble_eq_true rfl) (Nat.le_of_ble_eq_true rfl) ?_
  refine va_putF (D := D) (ci := 2) (v := .ref q_11) (ty := (.array .int)) (C := RX2) (T := TX2) (N := 17) hx hb hts inlX2 tyX2 tyX2_ok nmX2 hown hK hP hD hS 0 rfl rfl 15 (by decide) (hts (.fieldLink RX2 42 "VtableTown$State" "gaveUp" "[I") (pl_m 91 (by decide +kernel))) (fun _ h9 => h9) rfl hin rfl (by decide +kernel) rfl rfl (Nat.le_of_ble_eq_true rfl) dX2_init_94 (fun H locs hP hD hS => ?_)
  have hP : va_P D vwCl [(h0, .inr (2, [.int 0, .int 0, .long 0, .int 0, .int 0, .ref q_1, .ref q_2, .ref q_3, .ref q_4, .ref q_5, .ref q_6, .ref q_7, .ref q_8, .ref q_9, .ref q_10, .ref q_11, .null])), (q_1, .inl (cI, 12, .inl (fun _ => 0))), (q_2, .inl (cI, 12, .inl (fun _ => 0))), (q_3, .inl (cI, 12, .inl (fun _ => 0))), (q_4, .inl (cI, 12, .inl (fun _ => 0))), (q_5, .inl (cI, 12, .inl (fun _ => 0))), (q_6, .inl (cI, 12, .inl (fun _ => 0))), (q_7, .inl (cI, 504, .inl (fun _ => 0))), (q_8, .inl (cI, 504, .inl (fun _ => 0))), (q_9, .inl (cI, 504, .inl (fun _ => 0))), (q_10, .inl (cI, 504, .inl (fun _ => 0))), (q_11, .inl (cI, 504, .inl (fun _ => 0)))] H := hP
  have hD : va_D (A) [(h0, .inr (2, [.int 0, .int 0, .long 0, .int 0, .int 0, .ref q_1, .ref q_2, .ref q_3, .ref q_4, .ref q_5, .ref q_6, .ref q_7, .ref q_8, .ref q_9, .ref q_10, .ref q_11, .null])), (q_1, .inl (cI, 12, .inl (fun _ => 0))), (q_2, .inl (cI, 12, .inl (fun _ => 0))), (q_3, .inl (cI, 12, .inl (fun _ => 0))), (q_4, .inl (cI, 12, .inl (fun _ => 0))), (q_5, .inl (cI, 12, .inl (fun _ => 0))), (q_6, .inl (cI, 12, .inl (fun _ => 0))), (q_7, .inl (cI, 504, .inl (fun _ => 0))), (q_8, .inl (cI, 504, .inl (fun _ => 0))), (q_9, .inl (cI, 504, .inl (fun _ => 0))), (q_10, .inl (cI, 504, .inl (fun _ => 0))), (q_11, .inl (cI, 504, .inl (fun _ => 0)))] := hD
  refine lv_aload_n hx hb dX2_init_97 rfl (lv_at hl 0 rfl) ?_
  refine lv_sipush (v := 504) hx hb dX2_init_98 (by decide) ?_
  refine va_newa (atype := .int) (ty := .int) (N' := 504) (a0 := (504, .inl (fun _ => 0))) hx hb (hts (.arrayClass .int) (pl_m 6 (by decide +kernel))) rfl hK hP hD hS hA (fun _ => rfl) (by decide) (by decide +kernel) (Nat.le_of_ble_eq_true rfl) (Nat.le_of_ble_eq_true rfl) (Nat.le_of_ble_eq_true rfl) dX2_init_101 (fun q_12 cA H hK1 hP hD hS => ?_)
  obtain rfl := pn_sameI hK1
  clear hK1
  have hP : va_P D vwCl [(h0, .inr (2, [.int 0, .int 0, .long 0, .int 0, .int 0, .ref q_1, .ref q_2, .ref q_3, .ref q_4, .ref q_5, .ref q_6, .ref q_7, .ref q_8, .ref q_9, .ref q_10, .ref q_11, .null])), (q_1, .inl (cI, 12, .inl (fun _ => 0))), (q_2, .inl (cI, 12, .inl (fun _ => 0))), (q_3, .inl (cI, 12, .inl (fun _ => 0))), (q_4, .inl (cI, 12, .inl (fun _ => 0))), (q_5, .inl (cI, 12, .inl (fun _ => 0))), (q_6, .inl (cI, 12, .inl (fun _ => 0))), (q_7, .inl (cI, 504, .inl (fun _ => 0))), (q_8, .inl (cI, 504, .inl (fun _ => 0))), (q_9, .inl (cI, 504, .inl (fun _ => 0))), (q_10, .inl (cI, 504, .inl (fun _ => 0))), (q_11, .inl (cI, 504, .inl (fun _ => 0))), (q_12, .inl (cI, 504, .inl (fun _ => 0)))] H := hP
  have hD : va_D (A) [(h0, .inr (2, [.int 0, .int 0, .long 0, .int 0, .int 0, .ref q_1, .ref q_2, .ref q_3, .ref q_4, .ref q_5, .ref q_6, .ref q_7, .ref q_8, .ref q_9, .ref q_10, .ref q_11, .null])), (q_1, .inl (cI, 12, .inl (fun _ => 0))), (q_2, .inl (cI, 12, .inl (fun _ => 0))), (q_3, .inl (cI, 12, .inl (fun _ => 0))), (q_4, .inl (cI, 12, .inl (fun _ => 0))), (q_5, .inl (cI, 12, .inl (fun _ => 0))), (q_6, .inl (cI, 12, .inl (fun _ => 0))), (q_7, .inl (cI, 504, .inl (fun _ => 0))), (q_8, .inl (cI, 504, .inl (fun _ => 0))), (q_9, .inl (cI, 504, .inl (fun _ => 0))), (q_10, .inl (cI, 504, .inl (fun _ => 0))), (q_11, .inl (cI, 504, .inl (fun _ => 0))), (q_12, .inl (cI, 504, .inl (fun _ => 0)))] := hD
  refine W.widen (k := 12) (n := 3096) (Nat.le_of_ble_eq_true rfl) (Nat.le_of_ble_eq_true rfl) ?_
  refine va_putF (D := D) (ci := 2) (v := .ref q_12) (ty := (.array .int)) (C := RX2) (T := TX2) (N := 17) hx hb hts inlX2 tyX2 tyX2_ok nmX2 hown hK hP hD hS 0 rfl rfl 16 (by decide) (hts (.fieldLink RX2 45 "VtableTown$State" "turned" "[I") (pl_m 92 (by decide +kernel))) (fun _ h9 => h9) rfl hin rfl (by decide +kernel) rfl rfl (Nat.le_of_ble_eq_true rfl) dX2_init_103 (fun H locs hP hD hS => ?_)
  have hP : va_P D vwCl [(h0, .inr (2, [.int 0, .int 0, .long 0, .int 0, .int 0, .ref q_1, .ref q_2, .ref q_3, .ref q_4, .ref q_5, .ref q_6, .ref q_7, .ref q_8, .ref q_9, .ref q_10, .ref q_11, .ref q_12])), (q_1, .inl (cI, 12, .inl (fun _ => 0))), (q_2, .inl (cI, 12, .inl (fun _ => 0))), (q_3, .inl (cI, 12, .inl (fun _ => 0))), (q_4, .inl (cI, 12, .inl (fun _ => 0))), (q_5, .inl (cI, 12, .inl (fun _ => 0))), (q_6, .inl (cI, 12, .inl (fun _ => 0))), (q_7, .inl (cI, 504, .inl (fun _ => 0))), (q_8, .inl (cI, 504, .inl (fun _ => 0))), (q_9, .inl (cI, 504, .inl (fun _ => 0))), (q_10, .inl (cI, 504, .inl (fun _ => 0))), (q_11, .inl (cI, 504, .inl (fun _ => 0))), (q_12, .inl (cI, 504, .inl (fun _ => 0)))] H := hP
  have hD : va_D (A) [(h0, .inr (2, [.int 0, .int 0, .long 0, .int 0, .int 0, .ref q_1, .ref q_2, .ref q_3, .ref q_4, .ref q_5, .ref q_6, .ref q_7, .ref q_8, .ref q_9, .ref q_10, .ref q_11, .ref q_12])), (q_1, .inl (cI, 12, .inl (fun _ => 0))), (q_2, .inl (cI, 12, .inl (fun _ => 0))), (q_3, .inl (cI, 12, .inl (fun _ => 0))), (q_4, .inl (cI, 12, .inl (fun _ => 0))), (q_5, .inl (cI, 12, .inl (fun _ => 0))), (q_6, .inl (cI, 12, .inl (fun _ => 0))), (q_7, .inl (cI, 504, .inl (fun _ => 0))), (q_8, .inl (cI, 504, .inl (fun _ => 0))), (q_9, .inl (cI, 504, .inl (fun _ => 0))), (q_10, .inl (cI, 504, .inl (fun _ => 0))), (q_11, .inl (cI, 504, .inl (fun _ => 0))), (q_12, .inl (cI, 504, .inl (fun _ => 0)))] := hD
  have hP9 := hP.sub (ws' := [(h0, .inr (2, [.int 0, .int 0, .long 0, .int 0, .int 0, .ref q_1, .ref q_2, .ref q_3, .ref q_4, .ref q_5, .ref q_6, .ref q_7, .ref q_8, .ref q_9, .ref q_10, .ref q_11, .ref q_12])), (q_1, .inl (cI, 12, .inl (fun _ => 0))), (q_2, .inl (cI, 12, .inl (fun _ => 0))), (q_3, .inl (cI, 12, .inl (fun _ => 0))), (q_4, .inl (cI, 12, .inl (fun _ => 0))), (q_5, .inl (cI, 12, .inl (fun _ => 0))), (q_6, .inl (cI, 12, .inl (fun _ => 0))), (q_7, .inl (cI, 504, .inl (fun _ => 0))), (q_8, .inl (cI, 504, .inl (fun _ => 0))), (q_9, .inl (cI, 504, .inl (fun _ => 0))), (q_10, .inl (cI, 504, .inl (fun _ => 0))), (q_11, .inl (cI, 504, .inl (fun _ => 0))), (q_12, .inl (cI, 504, .inl (fun _ => 0)))]) [0, 1, 2, 3, 4, 5, 6, 7, 8, 9, 10, 11, 12] rfl
  have hD9 := hD.sub (ws' := [(h0, .inr (2, [.int 0, .int 0, .long 0, .int 0, .int 0, .ref q_1, .ref q_2, .ref q_3, .ref q_4, .ref q_5, .ref q_6, .ref q_7, .ref q_8, .ref q_9, .ref q_10, .ref q_11, .ref q_12])), (q_1, .inl (cI, 12, .inl (fun _ => 0))), (q_2, .inl (cI, 12, .inl (fun _ => 0))), (q_3, .inl (cI, 12, .inl (fun _ => 0))), (q_4, .inl (cI, 12, .inl (fun _ => 0))), (q_5, .inl (cI, 12, .inl (fun _ => 0))), (q_6, .inl (cI, 12, .inl (fun _ => 0))), (q_7, .inl (cI, 504, .inl (fun _ => 0))), (q_8, .inl (cI, 504, .inl (fun _ => 0))), (q_9, .inl (cI, 504, .inl (fun _ => 0))), (q_10, .inl (cI, 504, .inl (fun _ => 0))), (q_11, .inl (cI, 504, .inl (fun _ => 0))), (q_12, .inl (cI, 504, .inl (fun _ => 0)))]) [0, 1, 2, 3, 4, 5, 6, 7, 8, 9, 10, 11, 12] (by decide) rfl
  exact W.vret hx hb hr (fun tz_ ht hW => ⟨⟨(fun k => ([q_1, q_2, q_3, q_4, q_5, q_6, q_7, q_8, q_9, q_10, q_11, q_12] : List Nat).getD k 0), rfl, (by first | exact trivial | omega | (simp only [Int32.reduceToInt] at *; omega) | decide), (by rw [ht]; exact hP9), hD9⟩, hS.F ht⟩) hS.2.2 dX2_init_106
set_option maxHeartbeats 4000000 in
set_option maxRecDepth 100000 in
theorem c_X1_init (l : Launch) (D : va_G) (cI cZ cJ cG : ClassId) (sz : Nat) (h0 : Nat) (t : Nat) (fi : Nat) (st : Nat) : Met l yX1_init (pl_h yX1_init cX1_init 4 none) ({ frames := 2, cells := 16, slots := 4162, locals := 32 }) (va_Pc [.ref h0, .ref t, .ref fi, .ref st] (pn_X D (pn_Y cI cZ cJ cG) [(h0, .inr (1, [.null, .null, .null, .null, .null, .null, .null, .int 0, .int 0, .int 0, .int 0, .int 0]))] (va_A [(h0, .inr (1, [.null, .null, .null, .null, .null, .null, .null, .int 0, .int 0, .int 0, .int 0, .int 0]))] sz) sz)) (va_Qv (fun (u : Nat → Nat) => True) (fun u tz_ => va_P D vwCl [(h0, .inr (1, [.ref t, .ref fi, .ref st, .ref (u 0), .ref (u 13), .ref (u 14), .ref (u 15), .int 0, .int 0, .int 0, .int 0, .int 0])), ((u 0), .inr (2, [.int 0, .int 0, .long 0, .int 0, .int 0, .ref (u 1), .ref (u 2), .ref (u 3), .ref (u 4), .ref (u 5), .ref (u 6), .ref (u 7), .ref (u 8), .ref (u 9), .ref (u 10), .ref (u 11), .ref (u 12)])), ((u 1), .inl (cI, 12, .inl (fun _ => 0))), ((u 2), .inl (cI, 12, .inl (fun _ => 0))), ((u 3), .inl (cI, 12, .inl (fun _ => 0))), ((u 4), .inl (cI, 12, .inl (fun _ => 0))), ((u 5), .inl (cI, 12, .inl (fun _ => 0))), ((u 6), .inl (cI, 12, .inl (fun _ => 0))), ((u 7), .inl (cI, 504, .inl (fun _ => 0))), ((u 8), .inl (cI, 504, .inl (fun _ => 0))), ((u 9), .inl (cI, 504, .inl (fun _ => 0))), ((u 10), .inl (cI, 504, .inl (fun _ => 0))), ((u 11), .inl (cI, 504, .inl (fun _ => 0))), ((u 12), .inl (cI, 504, .inl (fun _ => 0))), ((u 13), .inl (cI, 20, .inl (fun _ => 0))), ((u 14), .inl (cI, 21, .inl (fun _ => 0))), ((u 15), .inl (cI, 1008, .inl (fun _ => 0)))] tz_.heap ∧ va_D (va_A [(h0, .inr (1, [.null, .null, .null, .null, .null, .null, .null, .int 0, .int 0, .int 0, .int 0, .int 0]))] sz) [(h0, .inr (1, [.ref t, .ref fi, .ref st, .ref (u 0), .ref (u 13), .ref (u 14), .ref (u 15), .int 0, .int 0, .int 0, .int 0, .int 0])), ((u 0), .inr (2, [.int 0, .int 0, .long 0, .int 0, .int 0, .ref (u 1), .ref (u 2), .ref (u 3), .ref (u 4), .ref (u 5), .ref (u 6), .ref (u 7), .ref (u 8), .ref (u 9), .ref (u 10), .ref (u 11), .ref (u 12)])), ((u 1), .inl (cI, 12, .inl (fun _ => 0))), ((u 2), .inl (cI, 12, .inl (fun _ => 0))), ((u 3), .inl (cI, 12, .inl (fun _ => 0))), ((u 4), .inl (cI, 12, .inl (fun _ => 0))), ((u 5), .inl (cI, 12, .inl (fun _ => 0))), ((u 6), .inl (cI, 12, .inl (fun _ => 0))), ((u 7), .inl (cI, 504, .inl (fun _ => 0))), ((u 8), .inl (cI, 504, .inl (fun _ => 0))), ((u 9), .inl (cI, 504, .inl (fun _ => 0))), ((u 10), .inl (cI, 504, .inl (fun _ => 0))), ((u 11), .inl (cI, 504, .inl (fun _ => 0))), ((u 12), .inl (cI, 504, .inl (fun _ => 0))), ((u 13), .inl (cI, 20, .inl (fun _ => 0))), ((u 14), .inl (cI, 21, .inl (fun _ => 0))), ((u 15), .inl (cI, 1008, .inl (fun _ => 0)))]) (va_A [(h0, .inr (1, [.null, .null, .null, .null, .null, .null, .null, .int 0, .int 0, .int 0, .int 0, .int 0]))] sz)) 16 4162 (va_A [(h0, .inr (1, [.null, .null, .null, .null, .null, .null, .null, .int 0, .int 0, .int 0, .int 0, .int 0]))] sz) := by
  refine Met.ofW (cc := cX1_init) (maxL := 4) (ret := none) (by decide) rfl ?_
  intro p e s m args below meth c s₁ B hml hv
  obtain ⟨rfl, ⟨hsz, hP, hK, hD0⟩, hZ, hT⟩ := hv
  have hx := B.exec
  have hb := B.bytes
  have hr := B.returns
  have hts0 := atoms_spec (ws := pl_h yX1_init cX1_init 4 none) B.pre
  have hts := fun (w : Cond) (h : w ∈ pw_all) => hts0 w (List.mem_cons_of_mem _ h)
  have hown : s.vm.findClass RX1 = some m.cls := findClass_of_methodNamed B.named
  have hlocks := B.notSynchronized
  have hin : meth.name = "<init>" := (name_of_methodNamed B.named B.method).1
  subst hsz
  have hD := hD0.self (sz := s.heap.size)
  generalize hAe : va_A [(h0, .inr (1, [.null, .null, .null, .null, .null, .null, .null, .int 0, .int 0, .int 0, .int 0, .int 0]))] s.heap.size = A at hZ hD ⊢
  have hA : ∀ q : Nat, s.heap.size ≤ q → A q := fun q h => by rw [← hAe]; exact Or.inr h
  have hS : va_S A s.heap s.heap [] := va_S.rf
  have hl := lv_entry ([.ref h0, .ref t, .ref fi, .ref st]) (n := 4) (Nat.le_of_ble_eq_true rfl)
  rw [lg_entry_eq]
  generalize (lg_sl ([.ref h0, .ref t, .ref fi, .ref st]) ++ List.replicate (4 - (lg_sl ([.ref h0, .ref t, .ref fi, .ref st])).length) Slot.unset).toArray = ls at hl ⊢
  have hl : lv_has ls 4 [(0, .ref h0), (1, .ref t), (2, .ref fi), (3, .ref st)] := hl
  refine lv_aload_n hx hb dX1_init_0 rfl (lv_at hl 0 rfl) ?_
  refine W.objInit hx hb hown (hts (.methodLink RX1 3 objectInit) (pl_m 96 (by decide +kernel))) (hts (.instanceMethod objectInit) (pl_m 11 (by decide +kernel))) (hts (.code objectInit ⟨#[0xb1]⟩ 1 none) (pl_m 12 (by decide +kernel))) rfl (by rw [hml]; exact hl.1) rfl dX1_init_1 (Nat.le_of_ble_eq_true rfl) (Nat.le_of_ble_eq_true rfl) ?_
  refine W.eq (g2 := F0 m 4 ls []) rfl ?_
  refine lv_aload_n hx hb dX1_init_4 rfl (lv_at hl 0 rfl) ?_
  refine va_new (ci := 2) (fs := [.int 0, .int 0, .long 0, .int 0, .int 0, .null, .null, .null, .null, .null, .null, .null, .null, .null, .null, .null, .null]) (C := RX2) (T := TX2) (N := 17) hx hb hts inlX2 tyX2 tyX2_ok hown (hts (.classLink RX1 9 RX2) (pl_m 97 (by decide +kernel))) (hts (.instantiable RX2 17) (pl_m 50 (by decide +kernel))) (hts (.initialized RX2) (pl_m 51 (by decide +kernel))) hK hP hD hS hA rfl (fun j hj => by rcases (show j = 0 ∨ j = 1 ∨ j = 2 ∨ j = 3 ∨ j = 4 ∨ j = 5 ∨ j = 6 ∨ j = 7 ∨ j = 8 ∨ j = 9 ∨ j = 10 ∨ j = 11 ∨ j = 12 ∨ j = 13 ∨ j = 14 ∨ j = 15 ∨ j = 16 by omega) with rfl | rfl | rfl | rfl | rfl | rfl | rfl | rfl | rfl | rfl | rfl | rfl | rfl | rfl | rfl | rfl | rfl <;> rfl) (Nat.le_of_ble_eq_true rfl) (Nat.le_of_ble_eq_true rfl) dX1_init_5 (fun q_1 H hP hD hS => ?_)
  have hP : va_P D vwCl [(h0, .inr (1, [.null, .null, .null, .null, .null, .null, .null, .int 0, .int 0, .int 0, .int 0, .int 0])), (q_1, .inr (2, [.int 0, .int 0, .long 0, .int 0, .int 0, .null, .null, .null, .null, .null, .null, .null, .null, .null, .null, .null, .null]))] H := hP
  have hD : va_D (A) [(h0, .inr (1, [.null, .null, .null, .null, .null, .null, .null, .int 0, .int 0, .int 0, .int 0, .int 0])), (q_1, .inr (2, [.int 0, .int 0, .long 0, .int 0, .int 0, .null, .null, .null, .null, .null, .null, .null, .null, .null, .null, .null, .null]))] := hD
  refine W.widen (k := 1) (n := 17) (Nat.le_of_ble_eq_true rfl) (Nat.le_of_ble_eq_true rfl) ?_
  refine lv_dup hx hb dX1_init_8 rfl ?_
  have hPc := hP.sub (ws' := [(q_1, .inr (2, [.int 0, .int 0, .long 0, .int 0, .int 0, .null, .null, .null, .null, .null, .null, .null, .null, .null, .null, .null, .null]))]) [1] rfl
  have hDc := hD.sub (ws' := [(q_1, .inr (2, [.int 0, .int 0, .long 0, .int 0, .int 0, .null, .null, .null, .null, .null, .null, .null, .null, .null, .null, .null, .null]))]) [1] (by decide) rfl
  refine pn_mv (w1 := fun (u : Nat → Nat) => [(q_1, .inr (2, [.int 0, .int 0, .long 0, .int 0, .int 0, .ref (u 0), .ref (u 1), .ref (u 2), .ref (u 3), .ref (u 4), .ref (u 5), .ref (u 6), .ref (u 7), .ref (u 8), .ref (u 9), .ref (u 10), .ref (u 11)])), ((u 0), .inl (cI, 12, .inl (fun _ => 0))), ((u 1), .inl (cI, 12, .inl (fun _ => 0))), ((u 2), .inl (cI, 12, .inl (fun _ => 0))), ((u 3), .inl (cI, 12, .inl (fun _ => 0))), ((u 4), .inl (cI, 12, .inl (fun _ => 0))), ((u 5), .inl (cI, 12, .inl (fun _ => 0))), ((u 6), .inl (cI, 504, .inl (fun _ => 0))), ((u 7), .inl (cI, 504, .inl (fun _ => 0))), ((u 8), .inl (cI, 504, .inl (fun _ => 0))), ((u 9), .inl (cI, 504, .inl (fun _ => 0))), ((u 10), .inl (cI, 504, .inl (fun _ => 0))), ((u 11), .inl (cI, 504, .inl (fun _ => 0)))]) (wr := [(h0, .inr (1, [.null, .null, .null, .null, .null, .null, .null, .int 0, .int 0, .int 0, .int 0, .int 0]))]) (wc := [(q_1, .inr (2, [.int 0, .int 0, .long 0, .int 0, .int 0, .null, .null, .null, .null, .null, .null, .null, .null, .null, .null, .null, .null]))]) [1] [0] (va_runIN (As := []) (rest := [.ref q_1, .ref h0]) ⟨hx, hb, hml, hown, hts⟩ (c_X2_init l D cI cZ cJ cG H.size q_1) ⟨va_cnB 0 hts (pl_L (pl_m 79 (by decide +kernel))) rfl rfl rfl (hT.2.2.1 (.methodLinkNest RX1 11 yX2_init RX4) (by decide +kernel)) (hts (.initialized RX2) (pl_m 51 (by decide +kernel))) (by decide +kernel) ⟨(Nat.le_of_ble_eq_true rfl), (Nat.le_of_ble_eq_true rfl)⟩, rfl, (hts (.instanceMethod yX2_init) (pl_m 78 (by decide +kernel)))⟩ ⟨pn_M_blind, (pn_M_at hPc hDc hK)⟩ rfl rfl hl.1 rfl (lv_room (Nat.le_of_ble_eq_true rfl)) dX1_init_9 ⟨(Nat.le_of_ble_eq_true rfl), (Nat.le_of_ble_eq_true rfl)⟩) hS hA hP hD rfl rfl (by decide) (by decide) (fun u_2 H locs hw hP hD hS => ?_)
  have hP : va_P D vwCl [(h0, .inr (1, [.null, .null, .null, .null, .null, .null, .null, .int 0, .int 0, .int 0, .int 0, .int 0])), (q_1, .inr (2, [.int 0, .int 0, .long 0, .int 0, .int 0, .ref (u_2 0), .ref (u_2 1), .ref (u_2 2), .ref (u_2 3), .ref (u_2 4), .ref (u_2 5), .ref (u_2 6), .ref (u_2 7), .ref (u_2 8), .ref (u_2 9), .ref (u_2 10), .ref (u_2 11)])), ((u_2 0), .inl (cI, 12, .inl (fun _ => 0))), ((u_2 1), .inl (cI, 12, .inl (fun _ => 0))), ((u_2 2), .inl (cI, 12, .inl (fun _ => 0))), ((u_2 3), .inl (cI, 12, .inl (fun _ => 0))), ((u_2 4), .inl (cI, 12, .inl (fun _ => 0))), ((u_2 5), .inl (cI, 12, .inl (fun _ => 0))), ((u_2 6), .inl (cI, 504, .inl (fun _ => 0))), ((u_2 7), .inl (cI, 504, .inl (fun _ => 0))), ((u_2 8), .inl (cI, 504, .inl (fun _ => 0))), ((u_2 9), .inl (cI, 504, .inl (fun _ => 0))), ((u_2 10), .inl (cI, 504, .inl (fun _ => 0))), ((u_2 11), .inl (cI, 504, .inl (fun _ => 0)))] H := hP
  have hD : va_D (A) [(h0, .inr (1, [.null, .null, .null, .null, .null, .null, .null, .int 0, .int 0, .int 0, .int 0, .int 0])), (q_1, .inr (2, [.int 0, .int 0, .long 0, .int 0, .int 0, .ref (u_2 0), .ref (u_2 1), .ref (u_2 2), .ref (u_2 3), .ref (u_2 4), .ref (u_2 5), .ref (u_2 6), .ref (u_2 7), .ref (u_2 8), .ref (u_2 9), .ref (u_2 10), .ref (u_2 11)])), ((u_2 0), .inl (cI, 12, .inl (fun _ => 0))), ((u_2 1), .inl (cI, 12, .inl (fun _ => 0))), ((u_2 2), .inl (cI, 12, .inl (fun _ => 0))), ((u_2 3), .inl (cI, 12, .inl (fun _ => 0))), ((u_2 4), .inl (cI, 12, .inl (fun _ => 0))), ((u_2 5), .inl (cI, 12, .inl (fun _ => 0))), ((u_2 6), .inl (cI, 504, .inl (fun _ => 0))), ((u_2 7), .inl (cI, 504, .inl (fun _ => 0))), ((u_2 8), .inl (cI, 504, .inl (fun _ => 0))), ((u_2 9), .inl (cI, 504, .inl (fun _ => 0))), ((u_2 10), .inl (cI, 504, .inl (fun _ => 0))), ((u_2 11), .inl (cI, 504, .inl (fun _ => 0)))] := hD
  refine W.widen (k := 13) (n := 3113) (Nat.le_of_ble_eq_true rfl) (Nat.le_of_ble_eq_true rfl) ?_
  refine va_putF (D := D) (ci := 1) (v := .ref q_1) (ty := (.object "VtableTown$State")) (C := RX1) (T := TX1) (N := 12) hx hb hts inlX1 tyX1 tyX1_ok nmX1 hown hK hP hD hS 0 rfl rfl 3 (by decide) (hts (.fieldLink RX1 12 "VtableTown$Machine" "kept" "LVtableTown$State;") (pl_m 98 (by decide +kernel))) (fun _ h9 => h9) rfl hin rfl (by decide +kernel) rfl rfl (Nat.le_of_ble_eq_true rfl) dX1_init_12 (fun H locs hP hD hS => ?_)
  have hP : va_P D vwCl [(h0, .inr (1, [.null, .null, .null, .ref q_1, .null, .null, .null, .int 0, .int 0, .int 0, .int 0, .int 0])), (q_1, .inr (2, [.int 0, .int 0, .long 0, .int 0, .int 0, .ref (u_2 0), .ref (u_2 1), .ref (u_2 2), .ref (u_2 3), .ref (u_2 4), .ref (u_2 5), .ref (u_2 6), .ref (u_2 7), .ref (u_2 8), .ref (u_2 9), .ref (u_2 10), .ref (u_2 11)])), ((u_2 0), .inl (cI, 12, .inl (fun _ => 0))), ((u_2 1), .inl (cI, 12, .inl (fun _ => 0))), ((u_2 2), .inl (cI, 12, .inl (fun _ => 0))), ((u_2 3), .inl (cI, 12, .inl (fun _ => 0))), ((u_2 4), .inl (cI, 12, .inl (fun _ => 0))), ((u_2 5), .inl (cI, 12, .inl (fun _ => 0))), ((u_2 6), .inl (cI, 504, .inl (fun _ => 0))), ((u_2 7), .inl (cI, 504, .inl (fun _ => 0))), ((u_2 8), .inl (cI, 504, .inl (fun _ => 0))), ((u_2 9), .inl (cI, 504, .inl (fun _ => 0))), ((u_2 10), .inl (cI, 504, .inl (fun _ => 0))), ((u_2 11), .inl (cI, 504, .inl (fun _ => 0)))] H := hP
  have hD : va_D (A) [(h0, .inr (1, [.null, .null, .null, .ref q_1, .null, .null, .null, .int 0, .int 0, .int 0, .int 0, .int 0])), (q_1, .inr (2, [.int 0, .int 0, .long 0, .int 0, .int 0, .ref (u_2 0), .ref (u_2 1), .ref (u_2 2), .ref (u_2 3), .ref (u_2 4), .ref (u_2 5), .ref (u_2 6), .ref (u_2 7), .ref (u_2 8), .ref (u_2 9), .ref (u_2 10), .ref (u_2 11)])), ((u_2 0), .inl (cI, 12, .inl (fun _ => 0))), ((u_2 1), .inl (cI, 12, .inl (fun _ => 0))), ((u_2 2), .inl (cI, 12, .inl (fun _ => 0))), ((u_2 3), .inl (cI, 12, .inl (fun _ => 0))), ((u_2 4), .inl (cI, 12, .inl (fun _ => 0))), ((u_2 5), .inl (cI, 12, .inl (fun _ => 0))), ((u_2 6), .inl (cI, 504, .inl (fun _ => 0))), ((u_2 7), .inl (cI, 504, .inl (fun _ => 0))), ((u_2 8), .inl (cI, 504, .inl (fun _ => 0))), ((u_2 9), .inl (cI, 504, .inl (fun _ => 0))), ((u_2 10), .inl (cI, 504, .inl (fun _ => 0))), ((u_2 11), .inl (cI, 504, .inl (fun _ => 0)))] := hD
  refine lv_aload_n hx hb dX1_init_15 rfl (lv_at hl 0 rfl) ?_
  refine lv_bipush (v := 20) hx hb dX1_init_16 (by decide) ?_
  refine va_newa (atype := .int) (ty := .int) (N' := 20) (a0 := (20, .inl (fun _ => 0))) hx hb (hts (.arrayClass .int) (pl_m 6 (by decide +kernel))) rfl hK hP hD hS hA (fun _ => rfl) (by decide) (by decide +kernel) (Nat.le_of_ble_eq_true rfl) (Nat.le_of_ble_eq_true rfl) (Nat.le_of_ble_eq_true rfl) dX1_init_18 (fun q_3 cA H hK1 hP hD hS => ?_)
  obtain rfl := pn_sameI hK1
  clear hK1
  have hP : va_P D vwCl [(h0, .inr (1, [.null, .null, .null, .ref q_1, .null, .null, .null, .int 0, .int 0, .int 0, .int 0, .int 0])), (q_1, .inr (2, [.int 0, .int 0, .long 0, .int 0, .int 0, .ref (u_2 0), .ref (u_2 1), .ref (u_2 2), .ref (u_2 3), .ref (u_2 4), .ref (u_2 5), .ref (u_2 6), .ref (u_2 7), .ref (u_2 8), .ref (u_2 9), .ref (u_2 10), .ref (u_2 11)])), ((u_2 0), .inl (cI, 12, .inl (fun _ => 0))), ((u_2 1), .inl (cI, 12, .inl (fun _ => 0))), ((u_2 2), .inl (cI, 12, .inl (fun _ => 0))), ((u_2 3), .inl (cI, 12, .inl (fun _ => 0))), ((u_2 4), .inl (cI, 12, .inl (fun _ => 0))), ((u_2 5), .inl (cI, 12, .inl (fun _ => 0))), ((u_2 6), .inl (cI, 504, .inl (fun _ => 0))), ((u_2 7), .inl (cI, 504, .inl (fun _ => 0))), ((u_2 8), .inl (cI, 504, .inl (fun _ => 0))), ((u_2 9), .inl (cI, 504, .inl (fun _ => 0))), ((u_2 10), .inl (cI, 504, .inl (fun _ => 0))), ((u_2 11), .inl (cI, 504, .inl (fun _ => 0))), (q_3, .inl (cI, 20, .inl (fun _ => 0)))] H := hP
  have hD : va_D (A) [(h0, .inr (1, [.null, .null, .null, .ref q_1, .null, .null, .null, .int 0, .int 0, .int 0, .int 0, .int 0])), (q_1, .inr (2, [.int 0, .int 0, .long 0, .int 0, .int 0, .ref (u_2 0), .ref (u_2 1), .ref (u_2 2), .ref (u_2 3), .ref (u_2 4), .ref (u_2 5), .ref (u_2 6), .ref (u_2 7), .ref (u_2 8), .ref (u_2 9), .ref (u_2 10), .ref (u_2 11)])), ((u_2 0), .inl (cI, 12, .inl (fun _ => 0))), ((u_2 1), .inl (cI, 12, .inl (fun _ => 0))), ((u_2 2), .inl (cI, 12, .inl (fun _ => 0))), ((u_2 3), .inl (cI, 12, .inl (fun _ => 0))), ((u_2 4), .inl (cI, 12, .inl (fun _ => 0))), ((u_2 5), .inl (cI, 12, .inl (fun _ => 0))), ((u_2 6), .inl (cI, 504, .inl (fun _ => 0))), ((u_2 7), .inl (cI, 504, .inl (fun _ => 0))), ((u_2 8), .inl (cI, 504, .inl (fun _ => 0))), ((u_2 9), .inl (cI, 504, .inl (fun _ => 0))), ((u_2 10), .inl (cI, 504, .inl (fun _ => 0))), ((u_2 11), .inl (cI, 504, .inl (fun _ => 0))), (q_3, .inl (cI, 20, .inl (fun _ => 0)))] := hD
  refine W.widen (k := 14) (n := 3133) (Nat.le_of_ble_eq_true rfl) (Nat.le_of_ble_eq_true rfl) ?_
  refine va_putF (D := D) (ci := 1) (v := .ref q_3) (ty := (.array .int)) (C := RX1) (T := TX1) (N := 12) hx hb hts inlX1 tyX1 tyX1_ok nmX1 hown hK hP hD hS 0 rfl rfl 4 (by decide) (hts (.fieldLink RX1 18 "VtableTown$Machine" "callers" "[I") (pl_m 99 (by decide +kernel))) (fun _ h9 => h9) rfl hin rfl (by decide +kernel) rfl rfl (Nat.le_of_ble_eq_true rfl) dX1_init_20 (fun H locs hP hD hS => ?_)
  have hP : va_P D vwCl [(h0, .inr (1, [.null, .null, .null, .ref q_1, .ref q_3, .null, .null, .int 0, .int 0, .int 0, .int 0, .int 0])), (q_1, .inr (2, [.int 0, .int 0, .long 0, .int 0, .int 0, .ref (u_2 0), .ref (u_2 1), .ref (u_2 2), .ref (u_2 3), .ref (u_2 4), .ref (u_2 5), .ref (u_2 6), .ref (u_2 7), .ref (u_2 8), .ref (u_2 9), .ref (u_2 10), .ref (u_2 11)])), ((u_2 0), .inl (cI, 12, .inl (fun _ => 0))), ((u_2 1), .inl (cI, 12, .inl (fun _ => 0))), ((u_2 2), .inl (cI, 12, .inl (fun _ => 0))), ((u_2 3), .inl (cI, 12, .inl (fun _ => 0))), ((u_2 4), .inl (cI, 12, .inl (fun _ => 0))), ((u_2 5), .inl (cI, 12, .inl (fun _ => 0))), ((u_2 6), .inl (cI, 504, .inl (fun _ => 0))), ((u_2 7), .inl (cI, 504, .inl (fun _ => 0))), ((u_2 8), .inl (cI, 504, .inl (fun _ => 0))), ((u_2 9), .inl (cI, 504, .inl (fun _ => 0))), ((u_2 10), .inl (cI, 504, .inl (fun _ => 0))), ((u_2 11), .inl (cI, 504, .inl (fun _ => 0))), (q_3, .inl (cI, 20, .inl (fun _ => 0)))] H := hP
  have hD : va_D (A) [(h0, .inr (1, [.null, .null, .null, .ref q_1, .ref q_3, .null, .null, .int 0, .int 0, .int 0, .int 0, .int 0])), (q_1, .inr (2, [.int 0, .int 0, .long 0, .int 0, .int 0, .ref (u_2 0), .ref (u_2 1), .ref (u_2 2), .ref (u_2 3), .ref (u_2 4), .ref (u_2 5), .ref (u_2 6), .ref (u_2 7), .ref (u_2 8), .ref (u_2 9), .ref (u_2 10), .ref (u_2 11)])), ((u_2 0), .inl (cI, 12, .inl (fun _ => 0))), ((u_2 1), .inl (cI, 12, .inl (fun _ => 0))), ((u_2 2), .inl (cI, 12, .inl (fun _ => 0))), ((u_2 3), .inl (cI, 12, .inl (fun _ => 0))), ((u_2 4), .inl (cI, 12, .inl (fun _ => 0))), ((u_2 5), .inl (cI, 12, .inl (fun _ => 0))), ((u_2 6), .inl (cI, 504, .inl (fun _ => 0))), ((u_2 7), .inl (cI, 504, .inl (fun _ => 0))), ((u_2 8), .inl (cI, 504, .inl (fun _ => 0))), ((u_2 9), .inl (cI, 504, .inl (fun _ => 0))), ((u_2 10), .inl (cI, 504, .inl (fun _ => 0))), ((u_2 11), .inl (cI, 504, .inl (fun _ => 0))), (q_3, .inl (cI, 20, .inl (fun _ => 0)))] := hD
  refine lv_aload_n hx hb dX1_init_23 rfl (lv_at hl 0 rfl) ?_
  refine lv_bipush (v := 21) hx hb dX1_init_24 (by decide) ?_
  refine va_newa (atype := .int) (ty := .int) (N' := 21) (a0 := (21, .inl (fun _ => 0))) hx hb (hts (.arrayClass .int) (pl_m 6 (by decide +kernel))) rfl hK hP hD hS hA (fun _ => rfl) (by decide) (by decide +kernel) (Nat.le_of_ble_eq_true rfl) (Nat.le_of_ble_eq_true rfl) (Nat.le_of_ble_eq_true rfl) dX1_init_26 (fun q_4 cA H hK1 hP hD hS => ?_)
  obtain rfl := pn_sameI hK1
  clear hK1
  have hP : va_P D vwCl [(h0, .inr (1, [.null, .null, .null, .ref q_1, .ref q_3, .null, .null, .int 0, .int 0, .int 0, .int 0, .int 0])), (q_1, .inr (2, [.int 0, .int 0, .long 0, .int 0, .int 0, .ref (u_2 0), .ref (u_2 1), .ref (u_2 2), .ref (u_2 3), .ref (u_2 4), .ref (u_2 5), .ref (u_2 6), .ref (u_2 7), .ref (u_2 8), .ref (u_2 9), .ref (u_2 10), .ref (u_2 11)])), ((u_2 0), .inl (cI, 12, .inl (fun _ => 0))), ((u_2 1), .inl (cI, 12, .inl (fun _ => 0))), ((u_2 2), .inl (cI, 12, .inl (fun _ => 0))), ((u_2 3), .inl (cI, 12, .inl (fun _ => 0))), ((u_2 4), .inl (cI, 12, .inl (fun _ => 0))), ((u_2 5), .inl (cI, 12, .inl (fun _ => 0))), ((u_2 6), .inl (cI, 504, .inl (fun _ => 0))), ((u_2 7), .inl (cI, 504, .inl (fun _ => 0))), ((u_2 8), .inl (cI, 504, .inl (fun _ => 0))), ((u_2 9), .inl (cI, 504, .inl (fun _ => 0))), ((u_2 10), .inl (cI, 504, .inl (fun _ => 0))), ((u_2 11), .inl (cI, 504, .inl (fun _ => 0))), (q_3, .inl (cI, 20, .inl (fun _ => 0))), (q_4, .inl (cI, 21, .inl (fun _ => 0)))] H := hP
  have hD : va_D (A) [(h0, .inr (1, [.null, .null, .null, .ref q_1, .ref q_3, .null, .null, .int 0, .int 0, .int 0, .int 0, .int 0])), (q_1, .inr (2, [.int 0, .int 0, .long 0, .int 0, .int 0, .ref (u_2 0), .ref (u_2 1), .ref (u_2 2), .ref (u_2 3), .ref (u_2 4), .ref (u_2 5), .ref (u_2 6), .ref (u_2 7), .ref (u_2 8), .ref (u_2 9), .ref (u_2 10), .ref (u_2 11)])), ((u_2 0), .inl (cI, 12, .inl (fun _ => 0))), ((u_2 1), .inl (cI, 12, .inl (fun _ => 0))), ((u_2 2), .inl (cI, 12, .inl (fun _ => 0))), ((u_2 3), .inl (cI, 12, .inl (fun _ => 0))), ((u_2 4), .inl (cI, 12, .inl (fun _ => 0))), ((u_2 5), .inl (cI, 12, .inl (fun _ => 0))), ((u_2 6), .inl (cI, 504, .inl (fun _ => 0))), ((u_2 7), .inl (cI, 504, .inl (fun _ => 0))), ((u_2 8), .inl (cI, 504, .inl (fun _ => 0))), ((u_2 9), .inl (cI, 504, .inl (fun _ => 0))), ((u_2 10), .inl (cI, 504, .inl (fun _ => 0))), ((u_2 11), .inl (cI, 504, .inl (fun _ => 0))), (q_3, .inl (cI, 20, .inl (fun _ => 0))), (q_4, .inl (cI, 21, .inl (fun _ => 0)))] := hD
  refine W.widen (k := 15) (n := 3154) (Nat.le_of_ble_eq_true rfl) (Nat.le_of_ble_eq_true rfl) ?_
  refine va_putF (D := D) (ci := 1) (v := .ref q_4) (ty := (.array .int)) (C := RX1) (T := TX1) (N := 12) hx hb hts inlX1 tyX1 tyX1_ok nmX1 hown hK hP hD hS 0 rfl rfl 5 (by decide) (hts (.fieldLink RX1 22 "VtableTown$Machine" "classes" "[I") (pl_m 100 (by decide +kernel))) (fun _ h9 => h9) rfl hin rfl (by decide +kernel) rfl rfl (Nat.le_of_ble_eq_true rfl) dX1_init_28 (fun H locs hP hD hS => ?_)
  have hP : va_P D vwCl [(h0, .inr (1, [.null, .null, .null, .ref q_1, .ref q_3, .ref q_4, .null, .int 0, .int 0, .int 0, .int 0, .int 0])), (q_1, .inr (2, [.int 0, .int 0, .long 0, .int 0, .int 0, .ref (u_2 0), .ref (u_2 1), .ref (u_2 2), .ref (u_2 3), .ref (u_2 4), .ref (u_2 5), .ref (u_2 6), .ref (u_2 7), .ref (u_2 8), .ref (u_2 9), .ref (u_2 10), .ref (u_2 11)])), ((u_2 0), .inl (cI, 12, .inl (fun _ => 0))), ((u_2 1), .inl (cI, 12, .inl (fun _ => 0))), ((u_2 2), .inl (cI, 12, .inl (fun _ => 0))), ((u_2 3), .inl (cI, 12, .inl (fun _ => 0))), ((u_2 4), .inl (cI, 12, .inl (fun _ => 0))), ((u_2 5), .inl (cI, 12, .inl (fun _ => 0))), ((u_2 6), .inl (cI, 504, .inl (fun _ => 0))), ((u_2 7), .inl (cI, 504, .inl (fun _ => 0))), ((u_2 8), .inl (cI, 504, .inl (fun _ => 0))), ((u_2 9), .inl (cI, 504, .inl (fun _ => 0))), ((u_2 10), .inl (cI, 504, .inl (fun _ => 0))), ((u_2 11), .inl (cI, 504, .inl (fun _ => 0))), (q_3, .inl (cI, 20, .inl (fun _ => 0))), (q_4, .inl (cI, 21, .inl (fun _ => 0)))] H := hP
  have hD : va_D (A) [(h0, .inr (1, [.null, .null, .null, .ref q_1, .ref q_3, .ref q_4, .null, .int 0, .int 0, .int 0, .int 0, .int 0])), (q_1, .inr (2, [.int 0, .int 0, .long 0, .int 0, .int 0, .ref (u_2 0), .ref (u_2 1), .ref (u_2 2), .ref (u_2 3), .ref (u_2 4), .ref (u_2 5), .ref (u_2 6), .ref (u_2 7), .ref (u_2 8), .ref (u_2 9), .ref (u_2 10), .ref (u_2 11)])), ((u_2 0), .inl (cI, 12, .inl (fun _ => 0))), ((u_2 1), .inl (cI, 12, .inl (fun _ => 0))), ((u_2 2), .inl (cI, 12, .inl (fun _ => 0))), ((u_2 3), .inl (cI, 12, .inl (fun _ => 0))), ((u_2 4), .inl (cI, 12, .inl (fun _ => 0))), ((u_2 5), .inl (cI, 12, .inl (fun _ => 0))), ((u_2 6), .inl (cI, 504, .inl (fun _ => 0))), ((u_2 7), .inl (cI, 504, .inl (fun _ => 0))), ((u_2 8), .inl (cI, 504, .inl (fun _ => 0))), ((u_2 9), .inl (cI, 504, .inl (fun _ => 0))), ((u_2 10), .inl (cI, 504, .inl (fun _ => 0))), ((u_2 11), .inl (cI, 504, .inl (fun _ => 0))), (q_3, .inl (cI, 20, .inl (fun _ => 0))), (q_4, .inl (cI, 21, .inl (fun _ => 0)))] := hD
  refine lv_aload_n hx hb dX1_init_31 rfl (lv_at hl 0 rfl) ?_
  refine lv_sipush (v := 1008) hx hb dX1_init_32 (by decide) ?_
  refine va_newa (atype := .int) (ty := .int) (N' := 1008) (a0 := (1008, .inl (fun _ => 0))) hx hb (hts (.arrayClass .int) (pl_m 6 (by decide +kernel))) rfl hK hP hD hS hA (fun _ => rfl) (by decide) (by decide +kernel) (Nat.le_of_ble_eq_true rfl) (Nat.le_of_ble_eq_true rfl) (Nat.le_of_ble_eq_true rfl) dX1_init_35 (fun q_5 cA H hK1 hP hD hS => ?_)
  obtain rfl := pn_sameI hK1
  clear hK1
  have hP : va_P D vwCl [(h0, .inr (1, [.null, .null, .null, .ref q_1, .ref q_3, .ref q_4, .null, .int 0, .int 0, .int 0, .int 0, .int 0])), (q_1, .inr (2, [.int 0, .int 0, .long 0, .int 0, .int 0, .ref (u_2 0), .ref (u_2 1), .ref (u_2 2), .ref (u_2 3), .ref (u_2 4), .ref (u_2 5), .ref (u_2 6), .ref (u_2 7), .ref (u_2 8), .ref (u_2 9), .ref (u_2 10), .ref (u_2 11)])), ((u_2 0), .inl (cI, 12, .inl (fun _ => 0))), ((u_2 1), .inl (cI, 12, .inl (fun _ => 0))), ((u_2 2), .inl (cI, 12, .inl (fun _ => 0))), ((u_2 3), .inl (cI, 12, .inl (fun _ => 0))), ((u_2 4), .inl (cI, 12, .inl (fun _ => 0))), ((u_2 5), .inl (cI, 12, .inl (fun _ => 0))), ((u_2 6), .inl (cI, 504, .inl (fun _ => 0))), ((u_2 7), .inl (cI, 504, .inl (fun _ => 0))), ((u_2 8), .inl (cI, 504, .inl (fun _ => 0))), ((u_2 9), .inl (cI, 504, .inl (fun _ => 0))), ((u_2 10), .inl (cI, 504, .inl (fun _ => 0))), ((u_2 11), .inl (cI, 504, .inl (fun _ => 0))), (q_3, .inl (cI, 20, .inl (fun _ => 0))), (q_4, .inl (cI, 21, .inl (fun _ => 0))), (q_5, .inl (cI, 1008, .inl (fun _ => 0)))] H := hP
  have hD : va_D (A) [(h0, .inr (1, [.null, .null, .null, .ref q_1, .ref q_3, .ref q_4, .null, .int 0, .int 0, .int 0, .int 0, .int 0])), (q_1, .inr (2, [.int 0, .int 0, .long 0, .int 0, .int 0, .ref (u_2 0), .ref (u_2 1), .ref (u_2 2), .ref (u_2 3), .ref (u_2 4), .ref (u_2 5), .ref (u_2 6), .ref (u_2 7), .ref (u_2 8), .ref (u_2 9), .ref (u_2 10), .ref (u_2 11)])), ((u_2 0), .inl (cI, 12, .inl (fun _ => 0))), ((u_2 1), .inl (cI, 12, .inl (fun _ => 0))), ((u_2 2), .inl (cI, 12, .inl (fun _ => 0))), ((u_2 3), .inl (cI, 12, .inl (fun _ => 0))), ((u_2 4), .inl (cI, 12, .inl (fun _ => 0))), ((u_2 5), .inl (cI, 12, .inl (fun _ => 0))), ((u_2 6), .inl (cI, 504, .inl (fun _ => 0))), ((u_2 7), .inl (cI, 504, .inl (fun _ => 0))), ((u_2 8), .inl (cI, 504, .inl (fun _ => 0))), ((u_2 9), .inl (cI, 504, .inl (fun _ => 0))), ((u_2 10), .inl (cI, 504, .inl (fun _ => 0))), ((u_2 11), .inl (cI, 504, .inl (fun _ => 0))), (q_3, .inl (cI, 20, .inl (fun _ => 0))), (q_4, .inl (cI, 21, .inl (fun _ => 0))), (q_5, .inl (cI, 1008, .inl (fun _ => 0)))] := hD
  refine W.widen (k := 16) (n := 4162) (Nat.le_of_ble_eq_true rfl) (Nat.le_of_ble_eq_true rfl) ?_
  refine va_putF (D := D) (ci := 1) (v := .ref q_5) (ty := (.array .int)) (C := RX1) (T := TX1) (N := 12) hx hb hts inlX1 tyX1 tyX1_ok nmX1 hown hK hP hD hS 0 rfl rfl 6 (by decide) (hts (.fieldLink RX1 25 "VtableTown$Machine" "values" "[I") (pl_m 101 (by decide +kernel))) (fun _ h9 => h9) rfl hin rfl (by decide +kernel) rfl rfl (Nat.le_of_ble_eq_true rfl) dX1_init_37 (fun H locs hP hD hS => ?_)
  have hP : va_P D vwCl [(h0, .inr (1, [.null, .null, .null, .ref q_1, .ref q_3, .ref q_4, .ref q_5, .int 0, .int 0, .int 0, .int 0, .int 0])), (q_1, .inr (2, [.int 0, .int 0, .long 0, .int 0, .int 0, .ref (u_2 0), .ref (u_2 1), .ref (u_2 2), .ref (u_2 3), .ref (u_2 4), .ref (u_2 5), .ref (u_2 6), .ref (u_2 7), .ref (u_2 8), .ref (u_2 9), .ref (u_2 10), .ref (u_2 11)])), ((u_2 0), .inl (cI, 12, .inl (fun _ => 0))), ((u_2 1), .inl (cI, 12, .inl (fun _ => 0))), ((u_2 2), .inl (cI, 12, .inl (fun _ => 0))), ((u_2 3), .inl (cI, 12, .inl (fun _ => 0))), ((u_2 4), .inl (cI, 12, .inl (fun _ => 0))), ((u_2 5), .inl (cI, 12, .inl (fun _ => 0))), ((u_2 6), .inl (cI, 504, .inl (fun _ => 0))), ((u_2 7), .inl (cI, 504, .inl (fun _ => 0))), ((u_2 8), .inl (cI, 504, .inl (fun _ => 0))), ((u_2 9), .inl (cI, 504, .inl (fun _ => 0))), ((u_2 10), .inl (cI, 504, .inl (fun _ => 0))), ((u_2 11), .inl (cI, 504, .inl (fun _ => 0))), (q_3, .inl (cI, 20, .inl (fun _ => 0))), (q_4, .inl (cI, 21, .inl (fun _ => 0))), (q_5, .inl (cI, 1008, .inl (fun _ => 0)))] H := hP
  have hD : va_D (A) [(h0, .inr (1, [.null, .null, .null, .ref q_1, .ref q_3, .ref q_4, .ref q_5, .int 0, .int 0, .int 0, .int 0, .int 0])), (q_1, .inr (2, [.int 0, .int 0, .long 0, .int 0, .int 0, .ref (u_2 0), .ref (u_2 1), .ref (u_2 2), .ref (u_2 3), .ref (u_2 4), .ref (u_2 5), .ref (u_2 6), .ref (u_2 7), .ref (u_2 8), .ref (u_2 9), .ref (u_2 10), .ref (u_2 11)])), ((u_2 0), .inl (cI, 12, .inl (fun _ => 0))), ((u_2 1), .inl (cI, 12, .inl (fun _ => 0))), ((u_2 2), .inl (cI, 12, .inl (fun _ => 0))), ((u_2 3), .inl (cI, 12, .inl (fun _ => 0))), ((u_2 4), .inl (cI, 12, .inl (fun _ => 0))), ((u_2 5), .inl (cI, 12, .inl (fun _ => 0))), ((u_2 6), .inl (cI, 504, .inl (fun _ => 0))), ((u_2 7), .inl (cI, 504, .inl (fun _ => 0))), ((u_2 8), .inl (cI, 504, .inl (fun _ => 0))), ((u_2 9), .inl (cI, 504, .inl (fun _ => 0))), ((u_2 10), .inl (cI, 504, .inl (fun _ => 0))), ((u_2 11), .inl (cI, 504, .inl (fun _ => 0))), (q_3, .inl (cI, 20, .inl (fun _ => 0))), (q_4, .inl (cI, 21, .inl (fun _ => 0))), (q_5, .inl (cI, 1008, .inl (fun _ => 0)))] := hD
  refine lv_aload_n hx hb dX1_init_40 rfl (lv_at hl 0 rfl) ?_
  refine lv_aload_n hx hb dX1_init_41 rfl (lv_at hl 1 rfl) ?_
  refine va_putF (D := D) (ci := 1) (v := .ref t) (ty := (.object "VtableTown$Told")) (C := RX1) (T := TX1) (N := 12) hx hb hts inlX1 tyX1 tyX1_ok nmX1 hown hK hP hD hS 0 rfl rfl 0 (by decide) (hts (.fieldLink RX1 28 "VtableTown$Machine" "told" "LVtableTown$Told;") (pl_m 102 (by decide +kernel))) (fun _ h9 => h9) rfl hin rfl (by decide +kernel) rfl rfl (Nat.le_of_ble_eq_true rfl) dX1_init_42 (fun H locs hP hD hS => ?_)
  have hP : va_P D vwCl [(h0, .inr (1, [.ref t, .null, .null, .ref q_1, .ref q_3, .ref q_4, .ref q_5, .int 0, .int 0, .int 0, .int 0, .int 0])), (q_1, .inr (2, [.int 0, .int 0, .long 0, .int 0, .int 0, .ref (u_2 0), .ref (u_2 1), .ref (u_2 2), .ref (u_2 3), .ref (u_2 4), .ref (u_2 5), .ref (u_2 6), .ref (u_2 7), .ref (u_2 8), .ref (u_2 9), .ref (u_2 10), .ref (u_2 11)])), ((u_2 0), .inl (cI, 12, .inl (fun _ => 0))), ((u_2 1), .inl (cI, 12, .inl (fun _ => 0))), ((u_2 2), .inl (cI, 12, .inl (fun _ => 0))), ((u_2 3), .inl (cI, 12, .inl (fun _ => 0))), ((u_2 4), .inl (cI, 12, .inl (fun _ => 0))), ((u_2 5), .inl (cI, 12, .inl (fun _ => 0))), ((u_2 6), .inl (cI, 504, .inl (fun _ => 0))), ((u_2 7), .inl (cI, 504, .inl (fun _ => 0))), ((u_2 8), .inl (cI, 504, .inl (fun _ => 0))), ((u_2 9), .inl (cI, 504, .inl (fun _ => 0))), ((u_2 10), .inl (cI, 504, .inl (fun _ => 0))), ((u_2 11), .inl (cI, 504, .inl (fun _ => 0))), (q_3, .inl (cI, 20, .inl (fun _ => 0))), (q_4, .inl (cI, 21, .inl (fun _ => 0))), (q_5, .inl (cI, 1008, .inl (fun _ => 0)))] H := hP
  have hD : va_D (A) [(h0, .inr (1, [.ref t, .null, .null, .ref q_1, .ref q_3, .ref q_4, .ref q_5, .int 0, .int 0, .int 0, .int 0, .int 0])), (q_1, .inr (2, [.int 0, .int 0, .long 0, .int 0, .int 0, .ref (u_2 0), .ref (u_2 1), .ref (u_2 2), .ref (u_2 3), .ref (u_2 4), .ref (u_2 5), .ref (u_2 6), .ref (u_2 7), .ref (u_2 8), .ref (u_2 9), .ref (u_2 10), .ref (u_2 11)])), ((u_2 0), .inl (cI, 12, .inl (fun _ => 0))), ((u_2 1), .inl (cI, 12, .inl (fun _ => 0))), ((u_2 2), .inl (cI, 12, .inl (fun _ => 0))), ((u_2 3), .inl (cI, 12, .inl (fun _ => 0))), ((u_2 4), .inl (cI, 12, .inl (fun _ => 0))), ((u_2 5), .inl (cI, 12, .inl (fun _ => 0))), ((u_2 6), .inl (cI, 504, .inl (fun _ => 0))), ((u_2 7), .inl (cI, 504, .inl (fun _ => 0))), ((u_2 8), .inl (cI, 504, .inl (fun _ => 0))), ((u_2 9), .inl (cI, 504, .inl (fun _ => 0))), ((u_2 10), .inl (cI, 504, .inl (fun _ => 0))), ((u_2 11), .inl (cI, 504, .inl (fun _ => 0))), (q_3, .inl (cI, 20, .inl (fun _ => 0))), (q_4, .inl (cI, 21, .inl (fun _ => 0))), (q_5, .inl (cI, 1008, .inl (fun _ => 0)))] := hD
  refine lv_aload_n hx hb dX1_init_45 rfl (lv_at hl 0 rfl) ?_
  refine lv_aload_n hx hb dX1_init_46 rfl (lv_at hl 2 rfl) ?_
  refine va_putF (D := D) (ci := 1) (v := .ref fi) (ty := (.object "VtableTown$Finder")) (C := RX1) (T := TX1) (N := 12) hx hb hts inlX1 tyX1 tyX1_ok nmX1 hown hK hP hD hS 0 rfl rfl 1 (by decide) (hts (.fieldLink RX1 32 "VtableTown$Machine" "finder" "LVtableTown$Finder;") (pl_m 103 (by decide +kernel))) (fun _ h9 => h9) rfl hin rfl (by decide +kernel) rfl rfl (Nat.le_of_ble_eq_true rfl) dX1_init_47 (fun H locs hP hD hS => ?_)
  have hP : va_P D vwCl [(h0, .inr (1, [.ref t, .ref fi, .null, .ref q_1, .ref q_3, .ref q_4, .ref q_5, .int 0, .int 0, .int 0, .int 0, .int 0])), (q_1, .inr (2, [.int 0, .int 0, .long 0, .int 0, .int 0, .ref (u_2 0), .ref (u_2 1), .ref (u_2 2), .ref (u_2 3), .ref (u_2 4), .ref (u_2 5), .ref (u_2 6), .ref (u_2 7), .ref (u_2 8), .ref (u_2 9), .ref (u_2 10), .ref (u_2 11)])), ((u_2 0), .inl (cI, 12, .inl (fun _ => 0))), ((u_2 1), .inl (cI, 12, .inl (fun _ => 0))), ((u_2 2), .inl (cI, 12, .inl (fun _ => 0))), ((u_2 3), .inl (cI, 12, .inl (fun _ => 0))), ((u_2 4), .inl (cI, 12, .inl (fun _ => 0))), ((u_2 5), .inl (cI, 12, .inl (fun _ => 0))), ((u_2 6), .inl (cI, 504, .inl (fun _ => 0))), ((u_2 7), .inl (cI, 504, .inl (fun _ => 0))), ((u_2 8), .inl (cI, 504, .inl (fun _ => 0))), ((u_2 9), .inl (cI, 504, .inl (fun _ => 0))), ((u_2 10), .inl (cI, 504, .inl (fun _ => 0))), ((u_2 11), .inl (cI, 504, .inl (fun _ => 0))), (q_3, .inl (cI, 20, .inl (fun _ => 0))), (q_4, .inl (cI, 21, .inl (fun _ => 0))), (q_5, .inl (cI, 1008, .inl (fun _ => 0)))] H := hP
  have hD : va_D (A) [(h0, .inr (1, [.ref t, .ref fi, .null, .ref q_1, .ref q_3, .ref q_4, .ref q_5, .int 0, .int 0, .int 0, .int 0, .int 0])), (q_1, .inr (2, [.int 0, .int 0, .long 0, .int 0, .int 0, .ref (u_2 0), .ref (u_2 1), .ref (u_2 2), .ref (u_2 3), .ref (u_2 4), .ref (u_2 5), .ref (u_2 6), .ref (u_2 7), .ref (u_2 8), .ref (u_2 9), .ref (u_2 10), .ref (u_2 11)])), ((u_2 0), .inl (cI, 12, .inl (fun _ => 0))), ((u_2 1), .inl (cI, 12, .inl (fun _ => 0))), ((u_2 2), .inl (cI, 12, .inl (fun _ => 0))), ((u_2 3), .inl (cI, 12, .inl (fun _ => 0))), ((u_2 4), .inl (cI, 12, .inl (fun _ => 0))), ((u_2 5), .inl (cI, 12, .inl (fun _ => 0))), ((u_2 6), .inl (cI, 504, .inl (fun _ => 0))), ((u_2 7), .inl (cI, 504, .inl (fun _ => 0))), ((u_2 8), .inl (cI, 504, .inl (fun _ => 0))), ((u_2 9), .inl (cI, 504, .inl (fun _ => 0))), ((u_2 10), .inl (cI, 504, .inl (fun _ => 0))), ((u_2 11), .inl (cI, 504, .inl (fun _ => 0))), (q_3, .inl (cI, 20, .inl (fun _ => 0))), (q_4, .inl (cI, 21, .inl (fun _ => 0))), (q_5, .inl (cI, 1008, .inl (fun _ => 0)))] := hD
  refine lv_aload_n hx hb dX1_init_50 rfl (lv_at hl 0 rfl) ?_
  refine lv_aload_n hx hb dX1_init_51 rfl (lv_at hl 3 rfl) ?_
  refine va_putF (D := D) (ci := 1) (v := .ref st) (ty := (.object "VtableTown$State")) (C := RX1) (T := TX1) (N := 12) hx hb hts inlX1 tyX1 tyX1_ok nmX1 hown hK hP hD hS 0 rfl rfl 2 (by decide) (hts (.fieldLink RX1 36 "VtableTown$Machine" "state" "LVtableTown$State;") (pl_m 104 (by decide +kernel))) (fun _ h9 => h9) rfl hin rfl (by decide +kernel) rfl rfl (Nat.le_of_ble_eq_true rfl) dX1_init_52 (fun H locs hP hD hS => ?_)
  have hP : va_P D vwCl [(h0, .inr (1, [.ref t, .ref fi, .ref st, .ref q_1, .ref q_3, .ref q_4, .ref q_5, .int 0, .int 0, .int 0, .int 0, .int 0])), (q_1, .inr (2, [.int 0, .int 0, .long 0, .int 0, .int 0, .ref (u_2 0), .ref (u_2 1), .ref (u_2 2), .ref (u_2 3), .ref (u_2 4), .ref (u_2 5), .ref (u_2 6), .ref (u_2 7), .ref (u_2 8), .ref (u_2 9), .ref (u_2 10), .ref (u_2 11)])), ((u_2 0), .inl (cI, 12, .inl (fun _ => 0))), ((u_2 1), .inl (cI, 12, .inl (fun _ => 0))), ((u_2 2), .inl (cI, 12, .inl (fun _ => 0))), ((u_2 3), .inl (cI, 12, .inl (fun _ => 0))), ((u_2 4), .inl (cI, 12, .inl (fun _ => 0))), ((u_2 5), .inl (cI, 12, .inl (fun _ => 0))), ((u_2 6), .inl (cI, 504, .inl (fun _ => 0))), ((u_2 7), .inl (cI, 504, .inl (fun _ => 0))), ((u_2 8), .inl (cI, 504, .inl (fun _ => 0))), ((u_2 9), .inl (cI, 504, .inl (fun _ => 0))), ((u_2 10), .inl (cI, 504, .inl (fun _ => 0))), ((u_2 11), .inl (cI, 504, .inl (fun _ => 0))), (q_3, .inl (cI, 20, .inl (fun _ => 0))), (q_4, .inl (cI, 21, .inl (fun _ => 0))), (q_5, .inl (cI, 1008, .inl (fun _ => 0)))] H := hP
  have hD : va_D (A) [(h0, .inr (1, [.ref t, .ref fi, .ref st, .ref q_1, .ref q_3, .ref q_4, .ref q_5, .int 0, .int 0, .int 0, .int 0, .int 0])), (q_1, .inr (2, [.int 0, .int 0, .long 0, .int 0, .int 0, .ref (u_2 0), .ref (u_2 1), .ref (u_2 2), .ref (u_2 3), .ref (u_2 4), .ref (u_2 5), .ref (u_2 6), .ref (u_2 7), .ref (u_2 8), .ref (u_2 9), .ref (u_2 10), .ref (u_2 11)])), ((u_2 0), .inl (cI, 12, .inl (fun _ => 0))), ((u_2 1), .inl (cI, 12, .inl (fun _ => 0))), ((u_2 2), .inl (cI, 12, .inl (fun _ => 0))), ((u_2 3), .inl (cI, 12, .inl (fun _ => 0))), ((u_2 4), .inl (cI, 12, .inl (fun _ => 0))), ((u_2 5), .inl (cI, 12, .inl (fun _ => 0))), ((u_2 6), .inl (cI, 504, .inl (fun _ => 0))), ((u_2 7), .inl (cI, 504, .inl (fun _ => 0))), ((u_2 8), .inl (cI, 504, .inl (fun _ => 0))), ((u_2 9), .inl (cI, 504, .inl (fun _ => 0))), ((u_2 10), .inl (cI, 504, .inl (fun _ => 0))), ((u_2 11), .inl (cI, 504, .inl (fun _ => 0))), (q_3, .inl (cI, 20, .inl (fun _ => 0))), (q_4, .inl (cI, 21, .inl (fun _ => 0))), (q_5, .inl (cI, 1008, .inl (fun _ => 0)))] := hD
  have hP9 := hP.sub (ws' := [(h0, .inr (1, [.ref t, .ref fi, .ref st, .ref q_1, .ref q_3, .ref q_4, .ref q_5, .int 0, .int 0, .int 0, .int 0, .int 0])), (q_1, .inr (2, [.int 0, .int 0, .long 0, .int 0, .int 0, .ref (u_2 0), .ref (u_2 1), .ref (u_2 2), .ref (u_2 3), .ref (u_2 4), .ref (u_2 5), .ref (u_2 6), .ref (u_2 7), .ref (u_2 8), .ref (u_2 9), .ref (u_2 10), .ref (u_2 11)])), ((u_2 0), .inl (cI, 12, .inl (fun _ => 0))), ((u_2 1), .inl (cI, 12, .inl (fun _ => 0))), ((u_2 2), .inl (cI, 12, .inl (fun _ => 0))), ((u_2 3), .inl (cI, 12, .inl (fun _ => 0))), ((u_2 4), .inl (cI, 12, .inl (fun _ => 0))), ((u_2 5), .inl (cI, 12, .inl (fun _ => 0))), ((u_2 6), .inl (cI, 504, .inl (fun _ => 0))), ((u_2 7), .inl (cI, 504, .inl (fun _ => 0))), ((u_2 8), .inl (cI, 504, .inl (fun _ => 0))), ((u_2 9), .inl (cI, 504, .inl (fun _ => 0))), ((u_2 10), .inl (cI, 504, .inl (fun _ => 0))), ((u_2 11), .inl (cI, 504, .inl (fun _ => 0))), (q_3, .inl (cI, 20, .inl (fun _ => 0))), (q_4, .inl (cI, 21, .inl (fun _ => 0))), (q_5, .inl (cI, 1008, .inl (fun _ => 0)))]) [0, 1, 2, 3, 4, 5, 6, 7, 8, 9, 10, 11, 12, 13, 14, 15, 16] rfl
  have hD9 := hD.sub (ws' := [(h0, .inr (1, [.ref t, .ref fi, .ref st, .ref q_1, .ref q_3, .ref q_4, .ref q_5, .int 0, .int 0, .int 0, .int 0, .int 0])), (q_1, .inr (2, [.int 0, .int 0, .long 0, .int 0, .int 0, .ref (u_2 0), .ref (u_2 1), .ref (u_2 2), .ref (u_2 3), .ref (u_2 4), .ref (u_2 5), .ref (u_2 6), .ref (u_2 7), .ref (u_2 8), .ref (u_2 9), .ref (u_2 10), .ref (u_2 11)])), ((u_2 0), .inl (cI, 12, .inl (fun _ => 0))), ((u_2 1), .inl (cI, 12, .inl (fun _ => 0))), ((u_2 2), .inl (cI, 12, .inl (fun _ => 0))), ((u_2 3), .inl (cI, 12, .inl (fun _ => 0))), ((u_2 4), .inl (cI, 12, .inl (fun _ => 0))), ((u_2 5), .inl (cI, 12, .inl (fun _ => 0))), ((u_2 6), .inl (cI, 504, .inl (fun _ => 0))), ((u_2 7), .inl (cI, 504, .inl (fun _ => 0))), ((u_2 8), .inl (cI, 504, .inl (fun _ => 0))), ((u_2 9), .inl (cI, 504, .inl (fun _ => 0))), ((u_2 10), .inl (cI, 504, .inl (fun _ => 0))), ((u_2 11), .inl (cI, 504, .inl (fun _ => 0))), (q_3, .inl (cI, 20, .inl (fun _ => 0))), (q_4, .inl (cI, 21, .inl (fun _ => 0))), (q_5, .inl (cI, 1008, .inl (fun _ => 0)))]) [0, 1, 2, 3, 4, 5, 6, 7, 8, 9, 10, 11, 12, 13, 14, 15, 16] (by decide) rfl
  exact W.vret hx hb hr (fun tz_ ht hW => ⟨⟨(fun k => ([q_1, (u_2 0), (u_2 1), (u_2 2), (u_2 3), (u_2 4), (u_2 5), (u_2 6), (u_2 7), (u_2 8), (u_2 9), (u_2 10), (u_2 11), q_3, q_4, q_5] : List Nat).getD k 0), rfl, (by first | exact trivial | omega | (simp only [Int32.reduceToInt] at *; omega) | decide), (by rw [ht]; exact hP9), hD9⟩, hS.F ht⟩) hS.2.2 dX1_init_55
set_option maxHeartbeats 4000000 in
set_option maxRecDepth 100000 in
theorem c_X4_init (l : Launch) (D : va_G) (cI cZ cJ cG : ClassId) (sz : Nat) (h0 : Nat) : Met l yX4_init (pl_h yX4_init cX4_init 1 none) ({ frames := 3, cells := 45, slots := 9198, locals := 55 }) (va_Pc [.ref h0] (pn_X D (pn_Y cI cZ cJ cG) [(h0, .inr (4, [.null, .null, .null, .null]))] (va_A [(h0, .inr (4, [.null, .null, .null, .null]))] sz) sz)) (va_Qv (fun (u : Nat → Nat) => True) (fun u tz_ => va_P D vwCl [(h0, .inr (4, [.ref (u 0), .ref (u 10), .ref (u 15), .ref (u 28)])), ((u 0), .inr (3, [.int 0, .ref (u 1), .ref (u 2), .ref (u 3), .ref (u 4), .ref (u 5), .ref (u 6), .ref (u 7), .ref (u 8), .ref (u 9)])), ((u 1), .inl (cZ, 12, .inl (fun _ => 0))), ((u 2), .inl (cI, 12, .inl (fun _ => 0))), ((u 3), .inl (cI, 12, .inl (fun _ => 0))), ((u 4), .inl (cI, 12, .inl (fun _ => 0))), ((u 5), .inl (cI, 84, .inl (fun _ => 0))), ((u 6), .inl (cI, 84, .inl (fun _ => 0))), ((u 7), .inl (cI, 504, .inl (fun _ => 0))), ((u 8), .inl (cI, 504, .inl (fun _ => 0))), ((u 9), .inl (cI, 504, .inl (fun _ => 0))), ((u 10), .inr (0, [.ref (u 0), .ref (u 11), .ref (u 12), .ref (u 13), .ref (u 14)])), ((u 11), .inl (cI, 12, .inl (fun _ => 0))), ((u 12), .inl (cI, 72, .inl (fun _ => 0))), ((u 13), .inl (cI, 72, .inl (fun _ => 0))), ((u 14), .inl (cI, 12, .inl (fun _ => 0))), ((u 15), .inr (2, [.int 0, .int 0, .long 0, .int 0, .int 0, .ref (u 16), .ref (u 17), .ref (u 18), .ref (u 19), .ref (u 20), .ref (u 21), .ref (u 22), .ref (u 23), .ref (u 24), .ref (u 25), .ref (u 26), .ref (u 27)])), ((u 16), .inl (cI, 12, .inl (fun _ => 0))), ((u 17), .inl (cI, 12, .inl (fun _ => 0))), ((u 18), .inl (cI, 12, .inl (fun _ => 0))), ((u 19), .inl (cI, 12, .inl (fun _ => 0))), ((u 20), .inl (cI, 12, .inl (fun _ => 0))), ((u 21), .inl (cI, 12, .inl (fun _ => 0))), ((u 22), .inl (cI, 504, .inl (fun _ => 0))), ((u 23), .inl (cI, 504, .inl (fun _ => 0))), ((u 24), .inl (cI, 504, .inl (fun _ => 0))), ((u 25), .inl (cI, 504, .inl (fun _ => 0))), ((u 26), .inl (cI, 504, .inl (fun _ => 0))), ((u 27), .inl (cI, 504, .inl (fun _ => 0))), ((u 28), .inr (1, [.ref (u 0), .ref (u 10), .ref (u 15), .ref (u 29), .ref (u 42), .ref (u 43), .ref (u 44), .int 0, .int 0, .int 0, .int 0, .int 0])), ((u 29), .inr (2, [.int 0, .int 0, .long 0, .int 0, .int 0, .ref (u 30), .ref (u 31), .ref (u 32), .ref (u 33), .ref (u 34), .ref (u 35), .ref (u 36), .ref (u 37), .ref (u 38), .ref (u 39), .ref (u 40), .ref (u 41)])), ((u 30), .inl (cI, 12, .inl (fun _ => 0))), ((u 31), .inl (cI, 12, .inl (fun _ => 0))), ((u 32), .inl (cI, 12, .inl (fun _ => 0))), ((u 33), .inl (cI, 12, .inl (fun _ => 0))), ((u 34), .inl (cI, 12, .inl (fun _ => 0))), ((u 35), .inl (cI, 12, .inl (fun _ => 0))), ((u 36), .inl (cI, 504, .inl (fun _ => 0))), ((u 37), .inl (cI, 504, .inl (fun _ => 0))), ((u 38), .inl (cI, 504, .inl (fun _ => 0))), ((u 39), .inl (cI, 504, .inl (fun _ => 0))), ((u 40), .inl (cI, 504, .inl (fun _ => 0))), ((u 41), .inl (cI, 504, .inl (fun _ => 0))), ((u 42), .inl (cI, 20, .inl (fun _ => 0))), ((u 43), .inl (cI, 21, .inl (fun _ => 0))), ((u 44), .inl (cI, 1008, .inl (fun _ => 0)))] tz_.heap ∧ va_D (va_A [(h0, .inr (4, [.null, .null, .null, .null]))] sz) [(h0, .inr (4, [.ref (u 0), .ref (u 10), .ref (u 15), .ref (u 28)])), ((u 0), .inr (3, [.int 0, .ref (u 1), .ref (u 2), .ref (u 3), .ref (u 4), .ref (u 5), .ref (u 6), .ref (u 7), .ref (u 8), .ref (u 9)])), ((u 1), .inl (cZ, 12, .inl (fun _ => 0))), ((u 2), .inl (cI, 12, .inl (fun _ => 0))), ((u 3), .inl (cI, 12, .inl (fun _ => 0))), ((u 4), .inl (cI, 12, .inl (fun _ => 0))), ((u 5), .inl (cI, 84, .inl (fun _ => 0))), ((u 6), .inl (cI, 84, .inl (fun _ => 0))), ((u 7), .inl (cI, 504, .inl (fun _ => 0))), ((u 8), .inl (cI, 504, .inl (fun _ => 0))), ((u 9), .inl (cI, 504, .inl (fun _ => 0))), ((u 10), .inr (0, [.ref (u 0), .ref (u 11), .ref (u 12), .ref (u 13), .ref (u 14)])), ((u 11), .inl (cI, 12, .inl (fun _ => 0))), ((u 12), .inl (cI, 72, .inl (fun _ => 0))), ((u 13), .inl (cI, 72, .inl (fun _ => 0))), ((u 14), .inl (cI, 12, .inl (fun _ => 0))), ((u 15), .inr (2, [.int 0, .int 0, .long 0, .int 0, .int 0, .ref (u 16), .ref (u 17), .ref (u 18), .ref (u 19), .ref (u 20), .ref (u 21), .ref (u 22), .ref (u 23), .ref (u 24), .ref (u 25), .ref (u 26), .ref (u 27)])), ((u 16), .inl (cI, 12, .inl (fun _ => 0))), ((u 17), .inl (cI, 12, .inl (fun _ => 0))), ((u 18), .inl (cI, 12, .inl (fun _ => 0))), ((u 19), .inl (cI, 12, .inl (fun _ => 0))), ((u 20), .inl (cI, 12, .inl (fun _ => 0))), ((u 21), .inl (cI, 12, .inl (fun _ => 0))), ((u 22), .inl (cI, 504, .inl (fun _ => 0))), ((u 23), .inl (cI, 504, .inl (fun _ => 0))), ((u 24), .inl (cI, 504, .inl (fun _ => 0))), ((u 25), .inl (cI, 504, .inl (fun _ => 0))), ((u 26), .inl (cI, 504, .inl (fun _ => 0))), ((u 27), .inl (cI, 504, .inl (fun _ => 0))), ((u 28), .inr (1, [.ref (u 0), .ref (u 10), .ref (u 15), .ref (u 29), .ref (u 42), .ref (u 43), .ref (u 44), .int 0, .int 0, .int 0, .int 0, .int 0])), ((u 29), .inr (2, [.int 0, .int 0, .long 0, .int 0, .int 0, .ref (u 30), .ref (u 31), .ref (u 32), .ref (u 33), .ref (u 34), .ref (u 35), .ref (u 36), .ref (u 37), .ref (u 38), .ref (u 39), .ref (u 40), .ref (u 41)])), ((u 30), .inl (cI, 12, .inl (fun _ => 0))), ((u 31), .inl (cI, 12, .inl (fun _ => 0))), ((u 32), .inl (cI, 12, .inl (fun _ => 0))), ((u 33), .inl (cI, 12, .inl (fun _ => 0))), ((u 34), .inl (cI, 12, .inl (fun _ => 0))), ((u 35), .inl (cI, 12, .inl (fun _ => 0))), ((u 36), .inl (cI, 504, .inl (fun _ => 0))), ((u 37), .inl (cI, 504, .inl (fun _ => 0))), ((u 38), .inl (cI, 504, .inl (fun _ => 0))), ((u 39), .inl (cI, 504, .inl (fun _ => 0))), ((u 40), .inl (cI, 504, .inl (fun _ => 0))), ((u 41), .inl (cI, 504, .inl (fun _ => 0))), ((u 42), .inl (cI, 20, .inl (fun _ => 0))), ((u 43), .inl (cI, 21, .inl (fun _ => 0))), ((u 44), .inl (cI, 1008, .inl (fun _ => 0)))]) (va_A [(h0, .inr (4, [.null, .null, .null, .null]))] sz)) 45 9198 (va_A [(h0, .inr (4, [.null, .null, .null, .null]))] sz) := by
  refine Met.ofW (cc := cX4_init) (maxL := 1) (ret := none) (by decide) rfl ?_
  intro p e s m args below meth c s₁ B hml hv
  obtain ⟨rfl, ⟨hsz, hP, hK, hD0⟩, hZ, hT⟩ := hv
  have hx := B.exec
  have hb := B.bytes
  have hr := B.returns
  have hts0 := atoms_spec (ws := pl_h yX4_init cX4_init 1 none) B.pre
  have hts := fun (w : Cond) (h : w ∈ pw_all) => hts0 w (List.mem_cons_of_mem _ h)
  have hown : s.vm.findClass RX4 = some m.cls := findClass_of_methodNamed B.named
  have hlocks := B.notSynchronized
  have hin : meth.name = "<init>" := (name_of_methodNamed B.named B.method).1
  subst hsz
  have hD := hD0.self (sz := s.heap.size)
  generalize hAe : va_A [(h0, .inr (4, [.null, .null, .null, .null]))] s.heap.size = A at hZ hD ⊢
  have hA : ∀ q : Nat, s.heap.size ≤ q → A q := fun q h => by rw [← hAe]; exact Or.inr h
  have hS : va_S A s.heap s.heap [] := va_S.rf
  have hl := lv_entry ([.ref h0]) (n := 1) (Nat.le_of_ble_eq_true rfl)
  rw [lg_entry_eq]
  generalize (lg_sl ([.ref h0]) ++ List.replicate (1 - (lg_sl ([.ref h0])).length) Slot.unset).toArray = ls at hl ⊢
  have hl : lv_has ls 1 [(0, .ref h0)] := hl
  refine lv_aload_n hx hb dX4_init_0 rfl (lv_at hl 0 rfl) ?_
  refine W.objInit hx hb hown (hts (.methodLink RX4 3 objectInit) (pl_m 40 (by decide +kernel))) (hts (.instanceMethod objectInit) (pl_m 11 (by decide +kernel))) (hts (.code objectInit ⟨#[0xb1]⟩ 1 none) (pl_m 12 (by decide +kernel))) rfl (by rw [hml]; exact hl.1) rfl dX4_init_1 (Nat.le_of_ble_eq_true rfl) (Nat.le_of_ble_eq_true rfl) ?_
  refine W.eq (g2 := F0 m 4 ls []) rfl ?_
  refine lv_aload_n hx hb dX4_init_4 rfl (lv_at hl 0 rfl) ?_
  refine va_new (ci := 3) (fs := [.int 0, .null, .null, .null, .null, .null, .null, .null, .null, .null]) (C := RX3) (T := TX3) (N := 10) hx hb hts inlX3 tyX3 tyX3_ok hown (hts (.classLink RX4 9 RX3) (pl_m 41 (by decide +kernel))) (hts (.instantiable RX3 10) (pl_m 42 (by decide +kernel))) (hts (.initialized RX3) (pl_m 43 (by decide +kernel))) hK hP hD hS hA rfl (fun j hj => by rcases (show j = 0 ∨ j = 1 ∨ j = 2 ∨ j = 3 ∨ j = 4 ∨ j = 5 ∨ j = 6 ∨ j = 7 ∨ j = 8 ∨ j = 9 by omega) with rfl | rfl | rfl | rfl | rfl | rfl | rfl | rfl | rfl | rfl <;> rfl) (Nat.le_of_ble_eq_true rfl) (Nat.le_of_ble_eq_true rfl) dX4_init_5 (fun q_1 H hP hD hS => ?_)
  have hP : va_P D vwCl [(h0, .inr (4, [.null, .null, .null, .null])), (q_1, .inr (3, [.int 0, .null, .null, .null, .null, .null, .null, .null, .null, .null]))] H := hP
  have hD : va_D (A) [(h0, .inr (4, [.null, .null, .null, .null])), (q_1, .inr (3, [.int 0, .null, .null, .null, .null, .null, .null, .null, .null, .null]))] := hD
  refine W.widen (k := 1) (n := 10) (Nat.le_of_ble_eq_true rfl) (Nat.le_of_ble_eq_true rfl) ?_
  refine lv_dup hx hb dX4_init_8 rfl ?_
  have hPc := hP.sub (ws' := [(q_1, .inr (3, [.int 0, .null, .null, .null, .null, .null, .null, .null, .null, .null]))]) [1] rfl
  have hDc := hD.sub (ws' := [(q_1, .inr (3, [.int 0, .null, .null, .null, .null, .null, .null, .null, .null, .null]))]) [1] (by decide) rfl
  refine pn_mv (w1 := fun (u : Nat → Nat) => [(q_1, .inr (3, [.int 0, .ref (u 0), .ref (u 1), .ref (u 2), .ref (u 3), .ref (u 4), .ref (u 5), .ref (u 6), .ref (u 7), .ref (u 8)])), ((u 0), .inl (cZ, 12, .inl (fun _ => 0))), ((u 1), .inl (cI, 12, .inl (fun _ => 0))), ((u 2), .inl (cI, 12, .inl (fun _ => 0))), ((u 3), .inl (cI, 12, .inl (fun _ => 0))), ((u 4), .inl (cI, 84, .inl (fun _ => 0))), ((u 5), .inl (cI, 84, .inl (fun _ => 0))), ((u 6), .inl (cI, 504, .inl (fun _ => 0))), ((u 7), .inl (cI, 504, .inl (fun _ => 0))), ((u 8), .inl (cI, 504, .inl (fun _ => 0)))]) (wr := [(h0, .inr (4, [.null, .null, .null, .null]))]) (wc := [(q_1, .inr (3, [.int 0, .null, .null, .null, .null, .null, .null, .null, .null, .null]))]) [1] [0] (va_runIN (As := []) (rest := [.ref q_1, .ref h0]) ⟨hx, hb, hml, hown, hts⟩ (c_X3_init l D cI cZ cJ cG H.size q_1) ⟨va_cnB 0 hts (pl_L (pl_m 58 (by decide +kernel))) rfl rfl rfl (hT.2.2.1 (.methodLinkNest RX4 11 yX3_init RX4) (by decide +kernel)) (hts (.initialized RX3) (pl_m 43 (by decide +kernel))) (by decide +kernel) ⟨(Nat.le_of_ble_eq_true rfl), (Nat.le_of_ble_eq_true rfl)⟩, rfl, (hts (.instanceMethod yX3_init) (pl_m 57 (by decide +kernel)))⟩ ⟨pn_M_blind, (pn_M_at hPc hDc hK)⟩ rfl rfl hl.1 rfl (lv_room (Nat.le_of_ble_eq_true rfl)) dX4_init_9 ⟨(Nat.le_of_ble_eq_true rfl), (Nat.le_of_ble_eq_true rfl)⟩) hS hA hP hD rfl rfl (by decide) (by decide) (fun u_2 H locs hw hP hD hS => ?_)
  have hP : va_P D vwCl [(h0, .inr (4, [.null, .null, .null, .null])), (q_1, .inr (3, [.int 0, .ref (u_2 0), .ref (u_2 1), .ref (u_2 2), .ref (u_2 3), .ref (u_2 4), .ref (u_2 5), .ref (u_2 6), .ref (u_2 7), .ref (u_2 8)])), ((u_2 0), .inl (cZ, 12, .inl (fun _ => 0))), ((u_2 1), .inl (cI, 12, .inl (fun _ => 0))), ((u_2 2), .inl (cI, 12, .inl (fun _ => 0))), ((u_2 3), .inl (cI, 12, .inl (fun _ => 0))), ((u_2 4), .inl (cI, 84, .inl (fun _ => 0))), ((u_2 5), .inl (cI, 84, .inl (fun _ => 0))), ((u_2 6), .inl (cI, 504, .inl (fun _ => 0))), ((u_2 7), .inl (cI, 504, .inl (fun _ => 0))), ((u_2 8), .inl (cI, 504, .inl (fun _ => 0)))] H := hP
  have hD : va_D (A) [(h0, .inr (4, [.null, .null, .null, .null])), (q_1, .inr (3, [.int 0, .ref (u_2 0), .ref (u_2 1), .ref (u_2 2), .ref (u_2 3), .ref (u_2 4), .ref (u_2 5), .ref (u_2 6), .ref (u_2 7), .ref (u_2 8)])), ((u_2 0), .inl (cZ, 12, .inl (fun _ => 0))), ((u_2 1), .inl (cI, 12, .inl (fun _ => 0))), ((u_2 2), .inl (cI, 12, .inl (fun _ => 0))), ((u_2 3), .inl (cI, 12, .inl (fun _ => 0))), ((u_2 4), .inl (cI, 84, .inl (fun _ => 0))), ((u_2 5), .inl (cI, 84, .inl (fun _ => 0))), ((u_2 6), .inl (cI, 504, .inl (fun _ => 0))), ((u_2 7), .inl (cI, 504, .inl (fun _ => 0))), ((u_2 8), .inl (cI, 504, .inl (fun _ => 0)))] := hD
  refine W.widen (k := 10) (n := 1738) (Nat.le_of_ble_eq_true rfl) (Nat.le_of_ble_eq_true rfl) ?_
  refine va_putF (D := D) (ci := 4) (v := .ref q_1) (ty := (.object "VtableTown$Told")) (C := RX4) (T := TX4) (N := 4) hx hb hts inlX4 tyX4 tyX4_ok nmX4 hown hK hP hD hS 0 rfl rfl 0 (by decide) (hts (.fieldLink RX4 12 "VtableTown" "told" "LVtableTown$Told;") (pl_m 44 (by decide +kernel))) (fun _ h9 => h9) rfl hin rfl (by decide +kernel) rfl rfl (Nat.le_of_ble_eq_true rfl) dX4_init_12 (fun H locs hP hD hS => ?_)
  have hP : va_P D vwCl [(h0, .inr (4, [.ref q_1, .null, .null, .null])), (q_1, .inr (3, [.int 0, .ref (u_2 0), .ref (u_2 1), .ref (u_2 2), .ref (u_2 3), .ref (u_2 4), .ref (u_2 5), .ref (u_2 6), .ref (u_2 7), .ref (u_2 8)])), ((u_2 0), .inl (cZ, 12, .inl (fun _ => 0))), ((u_2 1), .inl (cI, 12, .inl (fun _ => 0))), ((u_2 2), .inl (cI, 12, .inl (fun _ => 0))), ((u_2 3), .inl (cI, 12, .inl (fun _ => 0))), ((u_2 4), .inl (cI, 84, .inl (fun _ => 0))), ((u_2 5), .inl (cI, 84, .inl (fun _ => 0))), ((u_2 6), .inl (cI, 504, .inl (fun _ => 0))), ((u_2 7), .inl (cI, 504, .inl (fun _ => 0))), ((u_2 8), .inl (cI, 504, .inl (fun _ => 0)))] H := hP
  have hD : va_D (A) [(h0, .inr (4, [.ref q_1, .null, .null, .null])), (q_1, .inr (3, [.int 0, .ref (u_2 0), .ref (u_2 1), .ref (u_2 2), .ref (u_2 3), .ref (u_2 4), .ref (u_2 5), .ref (u_2 6), .ref (u_2 7), .ref (u_2 8)])), ((u_2 0), .inl (cZ, 12, .inl (fun _ => 0))), ((u_2 1), .inl (cI, 12, .inl (fun _ => 0))), ((u_2 2), .inl (cI, 12, .inl (fun _ => 0))), ((u_2 3), .inl (cI, 12, .inl (fun _ => 0))), ((u_2 4), .inl (cI, 84, .inl (fun _ => 0))), ((u_2 5), .inl (cI, 84, .inl (fun _ => 0))), ((u_2 6), .inl (cI, 504, .inl (fun _ => 0))), ((u_2 7), .inl (cI, 504, .inl (fun _ => 0))), ((u_2 8), .inl (cI, 504, .inl (fun _ => 0)))] := hD
  refine lv_aload_n hx hb dX4_init_15 rfl (lv_at hl 0 rfl) ?_
  refine va_new (ci := 0) (fs := [.null, .null, .null, .null, .null]) (C := RX0) (T := TX0) (N := 5) hx hb hts inlX0 tyX0 tyX0_ok hown (hts (.classLink RX4 16 RX0) (pl_m 45 (by decide +kernel))) (hts (.instantiable RX0 5) (pl_m 46 (by decide +kernel))) (hts (.initialized RX0) (pl_m 47 (by decide +kernel))) hK hP hD hS hA rfl (fun j hj => by rcases (show j = 0 ∨ j = 1 ∨ j = 2 ∨ j = 3 ∨ j = 4 by omega) with rfl | rfl | rfl | rfl | rfl <;> rfl) (Nat.le_of_ble_eq_true rfl) (Nat.le_of_ble_eq_true rfl) dX4_init_16 (fun q_3 H hP hD hS => ?_)
  have hP : va_P D vwCl [(h0, .inr (4, [.ref q_1, .null, .null, .null])), (q_1, .inr (3, [.int 0, .ref (u_2 0), .ref (u_2 1), .ref (u_2 2), .ref (u_2 3), .ref (u_2 4), .ref (u_2 5), .ref (u_2 6), .ref (u_2 7), .ref (u_2 8)])), ((u_2 0), .inl (cZ, 12, .inl (fun _ => 0))), ((u_2 1), .inl (cI, 12, .inl (fun _ => 0))), ((u_2 2), .inl (cI, 12, .inl (fun _ => 0))), ((u_2 3), .inl (cI, 12, .inl (fun _ => 0))), ((u_2 4), .inl (cI, 84, .inl (fun _ => 0))), ((u_2 5), .inl (cI, 84, .inl (fun _ => 0))), ((u_2 6), .inl (cI, 504, .inl (fun _ => 0))), ((u_2 7), .inl (cI, 504, .inl (fun _ => 0))), ((u_2 8), .inl (cI, 504, .inl (fun _ => 0))), (q_3, .inr (0, [.null, .null, .null, .null, .null]))] H := hP
  have hD : va_D (A) [(h0, .inr (4, [.ref q_1, .null, .null, .null])), (q_1, .inr (3, [.int 0, .ref (u_2 0), .ref (u_2 1), .ref (u_2 2), .ref (u_2 3), .ref (u_2 4), .ref (u_2 5), .ref (u_2 6), .ref (u_2 7), .ref (u_2 8)])), ((u_2 0), .inl (cZ, 12, .inl (fun _ => 0))), ((u_2 1), .inl (cI, 12, .inl (fun _ => 0))), ((u_2 2), .inl (cI, 12, .inl (fun _ => 0))), ((u_2 3), .inl (cI, 12, .inl (fun _ => 0))), ((u_2 4), .inl (cI, 84, .inl (fun _ => 0))), ((u_2 5), .inl (cI, 84, .inl (fun _ => 0))), ((u_2 6), .inl (cI, 504, .inl (fun _ => 0))), ((u_2 7), .inl (cI, 504, .inl (fun _ => 0))), ((u_2 8), .inl (cI, 504, .inl (fun _ => 0))), (q_3, .inr (0, [.null, .null, .null, .null, .null]))] := hD
  refine W.widen (k := 11) (n := 1743) (Nat.le_of_ble_eq_true rfl) (Nat.le_of_ble_eq_true rfl) ?_
  refine lv_dup hx hb dX4_init_19 rfl ?_
  refine lv_aload_n hx hb dX4_init_20 rfl (lv_at hl 0 rfl) ?_
  refine va_get (D := D) (ci := 4) (v := .ref q_1) (C := RX4) (T := TX4) (N := 4) hx hb hts inlX4 hown hK hP 0 rfl rfl 0 (by decide) (hts (.fieldLink RX4 12 "VtableTown" "told" "LVtableTown$Told;") (pl_m 44 (by decide +kernel))) (fun _ h9 => h9) rfl dX4_init_21 ?_
  have hPc := hP.sub (ws' := [(q_3, .inr (0, [.null, .null, .null, .null, .null]))]) [11] rfl
  have hDc := hD.sub (ws' := [(q_3, .inr (0, [.null, .null, .null, .null, .null]))]) [11] (by decide) rfl
  refine pn_mv (w1 := fun (u : Nat → Nat) => [(q_3, .inr (0, [.ref q_1, .ref (u 0), .ref (u 1), .ref (u 2), .ref (u 3)])), ((u 0), .inl (cI, 12, .inl (fun _ => 0))), ((u 1), .inl (cI, 72, .inl (fun _ => 0))), ((u 2), .inl (cI, 72, .inl (fun _ => 0))), ((u 3), .inl (cI, 12, .inl (fun _ => 0)))]) (wr := [(h0, .inr (4, [.ref q_1, .null, .null, .null])), (q_1, .inr (3, [.int 0, .ref (u_2 0), .ref (u_2 1), .ref (u_2 2), .ref (u_2 3), .ref (u_2 4), .ref (u_2 5), .ref (u_2 6), .ref (u_2 7), .ref (u_2 8)])), ((u_2 0), .inl (cZ, 12, .inl (fun _ => 0))), ((u_2 1), .inl (cI, 12, .inl (fun _ => 0))), ((u_2 2), .inl (cI, 12, .inl (fun _ => 0))), ((u_2 3), .inl (cI, 12, .inl (fun _ => 0))), ((u_2 4), .inl (cI, 84, .inl (fun _ => 0))), ((u_2 5), .inl (cI, 84, .inl (fun _ => 0))), ((u_2 6), .inl (cI, 504, .inl (fun _ => 0))), ((u_2 7), .inl (cI, 504, .inl (fun _ => 0))), ((u_2 8), .inl (cI, 504, .inl (fun _ => 0)))]) (wc := [(q_3, .inr (0, [.null, .null, .null, .null, .null]))]) [11] [0, 1, 2, 3, 4, 5, 6, 7, 8, 9, 10] (va_runI (As := [.ref q_1]) (rest := [.ref q_3, .ref h0]) ⟨hx, hb, hml, hown, hts⟩ (c_X0_init l D cI cZ cJ cG H.size q_3 q_1) (cwI 1 hts (pl_L (pl_m 71 (by decide +kernel))) rfl rfl rfl (hts (.initialized RX0) (pl_m 47 (by decide +kernel))) (hts (.methodLink RX4 18 yX0_init) (pl_m 69 (by decide +kernel))) (hts (.instanceMethod yX0_init) (pl_m 70 (by decide +kernel))) rfl (by decide +kernel) ⟨(Nat.le_of_ble_eq_true rfl), (Nat.le_of_ble_eq_true rfl)⟩) ⟨pn_M_blind, (pn_M_at hPc hDc hK)⟩ rfl rfl hl.1 rfl (lv_room (Nat.le_of_ble_eq_true rfl)) dX4_init_24 ⟨(Nat.le_of_ble_eq_true rfl), (Nat.le_of_ble_eq_true rfl)⟩) hS hA hP hD rfl rfl (by decide) (by decide) (fun u_4 H locs hw hP hD hS => ?_)
  have hP : va_P D vwCl [(h0, .inr (4, [.ref q_1, .null, .null, .null])), (q_1, .inr (3, [.int 0, .ref (u_2 0), .ref (u_2 1), .ref (u_2 2), .ref (u_2 3), .ref (u_2 4), .ref (u_2 5), .ref (u_2 6), .ref (u_2 7), .ref (u_2 8)])), ((u_2 0), .inl (cZ, 12, .inl (fun _ => 0))), ((u_2 1), .inl (cI, 12, .inl (fun _ => 0))), ((u_2 2), .inl (cI, 12, .inl (fun _ => 0))), ((u_2 3), .inl (cI, 12, .inl (fun _ => 0))), ((u_2 4), .inl (cI, 84, .inl (fun _ => 0))), ((u_2 5), .inl (cI, 84, .inl (fun _ => 0))), ((u_2 6), .inl (cI, 504, .inl (fun _ => 0))), ((u_2 7), .inl (cI, 504, .inl (fun _ => 0))), ((u_2 8), .inl (cI, 504, .inl (fun _ => 0))), (q_3, .inr (0, [.ref q_1, .ref (u_4 0), .ref (u_4 1), .ref (u_4 2), .ref (u_4 3)])), ((u_4 0), .inl (cI, 12, .inl (fun _ => 0))), ((u_4 1), .inl (cI, 72, .inl (fun _ => 0))), ((u_4 2), .inl (cI, 72, .inl (fun _ => 0))), ((u_4 3), .inl (cI, 12, .inl (fun _ => 0)))] H := hP
  have hD : va_D (A) [(h0, .inr (4, [.ref q_1, .null, .null, .null])), (q_1, .inr (3, [.int 0, .ref (u_2 0), .ref (u_2 1), .ref (u_2 2), .ref (u_2 3), .ref (u_2 4), .ref (u_2 5), .ref (u_2 6), .ref (u_2 7), .ref (u_2 8)])), ((u_2 0), .inl (cZ, 12, .inl (fun _ => 0))), ((u_2 1), .inl (cI, 12, .inl (fun _ => 0))), ((u_2 2), .inl (cI, 12, .inl (fun _ => 0))), ((u_2 3), .inl (cI, 12, .inl (fun _ => 0))), ((u_2 4), .inl (cI, 84, .inl (fun _ => 0))), ((u_2 5), .inl (cI, 84, .inl (fun _ => 0))), ((u_2 6), .inl (cI, 504, .inl (fun _ => 0))), ((u_2 7), .inl (cI, 504, .inl (fun _ => 0))), ((u_2 8), .inl (cI, 504, .inl (fun _ => 0))), (q_3, .inr (0, [.ref q_1, .ref (u_4 0), .ref (u_4 1), .ref (u_4 2), .ref (u_4 3)])), ((u_4 0), .inl (cI, 12, .inl (fun _ => 0))), ((u_4 1), .inl (cI, 72, .inl (fun _ => 0))), ((u_4 2), .inl (cI, 72, .inl (fun _ => 0))), ((u_4 3), .inl (cI, 12, .inl (fun _ => 0)))] := hD
  refine W.widen (k := 15) (n := 1911) (Nat.le_of_ble_eq_true rfl) (Nat.le_of_ble_eq_true rfl) ?_
  refine va_putF (D := D) (ci := 4) (v := .ref q_3) (ty := (.object "VtableTown$Finder")) (C := RX4) (T := TX4) (N := 4) hx hb hts inlX4 tyX4 tyX4_ok nmX4 hown hK hP hD hS 0 rfl rfl 1 (by decide) (hts (.fieldLink RX4 21 "VtableTown" "finder" "LVtableTown$Finder;") (pl_m 48 (by decide +kernel))) (fun _ h9 => h9) rfl hin rfl (by decide +kernel) rfl rfl (Nat.le_of_ble_eq_true rfl) dX4_init_27 (fun H locs hP hD hS => ?_)
  have hP : va_P D vwCl [(h0, .inr (4, [.ref q_1, .ref q_3, .null, .null])), (q_1, .inr (3, [.int 0, .ref (u_2 0), .ref (u_2 1), .ref (u_2 2), .ref (u_2 3), .ref (u_2 4), .ref (u_2 5), .ref (u_2 6), .ref (u_2 7), .ref (u_2 8)])), ((u_2 0), .inl (cZ, 12, .inl (fun _ => 0))), ((u_2 1), .inl (cI, 12, .inl (fun _ => 0))), ((u_2 2), .inl (cI, 12, .inl (fun _ => 0))), ((u_2 3), .inl (cI, 12, .inl (fun _ => 0))), ((u_2 4), .inl (cI, 84, .inl (fun _ => 0))), ((u_2 5), .inl (cI, 84, .inl (fun _ => 0))), ((u_2 6), .inl (cI, 504, .inl (fun _ => 0))), ((u_2 7), .inl (cI, 504, .inl (fun _ => 0))), ((u_2 8), .inl (cI, 504, .inl (fun _ => 0))), (q_3, .inr (0, [.ref q_1, .ref (u_4 0), .ref (u_4 1), .ref (u_4 2), .ref (u_4 3)])), ((u_4 0), .inl (cI, 12, .inl (fun _ => 0))), ((u_4 1), .inl (cI, 72, .inl (fun _ => 0))), ((u_4 2), .inl (cI, 72, .inl (fun _ => 0))), ((u_4 3), .inl (cI, 12, .inl (fun _ => 0)))] H := hP
  have hD : va_D (A) [(h0, .inr (4, [.ref q_1, .ref q_3, .null, .null])), (q_1, .inr (3, [.int 0, .ref (u_2 0), .ref (u_2 1), .ref (u_2 2), .ref (u_2 3), .ref (u_2 4), .ref (u_2 5), .ref (u_2 6), .ref (u_2 7), .ref (u_2 8)])), ((u_2 0), .inl (cZ, 12, .inl (fun _ => 0))), ((u_2 1), .inl (cI, 12, .inl (fun _ => 0))), ((u_2 2), .inl (cI, 12, .inl (fun _ => 0))), ((u_2 3), .inl (cI, 12, .inl (fun _ => 0))), ((u_2 4), .inl (cI, 84, .inl (fun _ => 0))), ((u_2 5), .inl (cI, 84, .inl (fun _ => 0))), ((u_2 6), .inl (cI, 504, .inl (fun _ => 0))), ((u_2 7), .inl (cI, 504, .inl (fun _ => 0))), ((u_2 8), .inl (cI, 504, .inl (fun _ => 0))), (q_3, .inr (0, [.ref q_1, .ref (u_4 0), .ref (u_4 1), .ref (u_4 2), .ref (u_4 3)])), ((u_4 0), .inl (cI, 12, .inl (fun _ => 0))), ((u_4 1), .inl (cI, 72, .inl (fun _ => 0))), ((u_4 2), .inl (cI, 72, .inl (fun _ => 0))), ((u_4 3), .inl (cI, 12, .inl (fun _ => 0)))] := hD
  refine lv_aload_n hx hb dX4_init_30 rfl (lv_at hl 0 rfl) ?_
  refine va_new (ci := 2) (fs := [.int 0, .int 0, .long 0, .int 0, .int 0, .null, .null, .null, .null, .null, .null, .null, .null, .null, .null, .null, .null]) (C := RX2) (T := TX2) (N := 17) hx hb hts inlX2 tyX2 tyX2_ok hown (hts (.classLink RX4 25 RX2) (pl_m 49 (by decide +kernel))) (hts (.instantiable RX2 17) (pl_m 50 (by decide +kernel))) (hts (.initialized RX2) (pl_m 51 (by decide +kernel))) hK hP hD hS hA rfl (fun j hj => by rcases (show j = 0 ∨ j = 1 ∨ j = 2 ∨ j = 3 ∨ j = 4 ∨ j = 5 ∨ j = 6 ∨ j = 7 ∨ j = 8 ∨ j = 9 ∨ j = 10 ∨ j = 11 ∨ j = 12 ∨ j = 13 ∨ j = 14 ∨ j = 15 ∨ j = 16 by omega) with rfl | rfl | rfl | rfl | rfl | rfl | rfl | rfl | rfl | rfl | rfl | rfl | rfl | rfl | rfl | rfl | rfl <;> rfl) (Nat.le_of_ble_eq_true rfl) (Nat.le_of_ble_eq_true rfl) dX4_init_31 (fun q_5 H hP hD hS => ?_)
  have hP : va_P D vwCl [(h0, .inr (4, [.ref q_1, .ref q_3, .null, .null])), (q_1, .inr (3, [.int 0, .ref (u_2 0), .ref (u_2 1), .ref (u_2 2), .ref (u_2 3), .ref (u_2 4), .ref (u_2 5), .ref (u_2 6), .ref (u_2 7), .ref (u_2 8)])), ((u_2 0), .inl (cZ, 12, .inl (fun _ => 0))), ((u_2 1), .inl (cI, 12, .inl (fun _ => 0))), ((u_2 2), .inl (cI, 12, .inl (fun _ => 0))), ((u_2 3), .inl (cI, 12, .inl (fun _ => 0))), ((u_2 4), .inl (cI, 84, .inl (fun _ => 0))), ((u_2 5), .inl (cI, 84, .inl (fun _ => 0))), ((u_2 6), .inl (cI, 504, .inl (fun _ => 0))), ((u_2 7), .inl (cI, 504, .inl (fun _ => 0))), ((u_2 8), .inl (cI, 504, .inl (fun _ => 0))), (q_3, .inr (0, [.ref q_1, .ref (u_4 0), .ref (u_4 1), .ref (u_4 2), .ref (u_4 3)])), ((u_4 0), .inl (cI, 12, .inl (fun _ => 0))), ((u_4 1), .inl (cI, 72, .inl (fun _ => 0))), ((u_4 2), .inl (cI, 72, .inl (fun _ => 0))), ((u_4 3), .inl (cI, 12, .inl (fun _ => 0))), (q_5, .inr (2, [.int 0, .int 0, .long 0, .int 0, .int 0, .null, .null, .null, .null, .null, .null, .null, .null, .null, .null, .null, .null]))] H := hP
  have hD : va_D (A) [(h0, .inr (4, [.ref q_1, .ref q_3, .null, .null])), (q_1, .inr (3, [.int 0, .ref (u_2 0), .ref (u_2 1), .ref (u_2 2), .ref (u_2 3), .ref (u_2 4), .ref (u_2 5), .ref (u_2 6), .ref (u_2 7), .ref (u_2 8)])), ((u_2 0), .inl (cZ, 12, .inl (fun _ => 0))), ((u_2 1), .inl (cI, 12, .inl (fun _ => 0))), ((u_2 2), .inl (cI, 12, .inl (fun _ => 0))), ((u_2 3), .inl (cI, 12, .inl (fun _ => 0))), ((u_2 4), .inl (cI, 84, .inl (fun _ => 0))), ((u_2 5), .inl (cI, 84, .inl (fun _ => 0))), ((u_2 6), .inl (cI, 504, .inl (fun _ => 0))), ((u_2 7), .inl (cI, 504, .inl (fun _ => 0))), ((u_2 8), .inl (cI, 504, .inl (fun _ => 0))), (q_3, .inr (0, [.ref q_1, .ref (u_4 0), .ref (u_4 1), .ref (u_4 2), .ref (u_4 3)])), ((u_4 0), .inl (cI, 12, .inl (fun _ => 0))), ((u_4 1), .inl (cI, 72, .inl (fun _ => 0))), ((u_4 2), .inl (cI, 72, .inl (fun _ => 0))), ((u_4 3), .inl (cI, 12, .inl (fun _ => 0))), (q_5, .inr (2, [.int 0, .int 0, .long 0, .int 0, .int 0, .null, .null, .null, .null, .null, .null, .null, .null, .null, .null, .null, .null]))] := hD
  refine W.widen (k := 16) (n := 1928) (Nat.le_of_ble_eq_true rfl) (Nat.le_of_ble_eq_true rfl) ?_
  refine lv_dup hx hb dX4_init_34 rfl ?_
  have hPc := hP.sub (ws' := [(q_5, .inr (2, [.int 0, .int 0, .long 0, .int 0, .int 0, .null, .null, .null, .null, .null, .null, .null, .null, .null, .null, .null, .null]))]) [16] rfl
  have hDc := hD.sub (ws' := [(q_5, .inr (2, [.int 0, .int 0, .long 0, .int 0, .int 0, .null, .null, .null, .null, .null, .null, .null, .null, .null, .null, .null, .null]))]) [16] (by decide) rfl
  refine pn_mv (w1 := fun (u : Nat → Nat) => [(q_5, .inr (2, [.int 0, .int 0, .long 0, .int 0, .int 0, .ref (u 0), .ref (u 1), .ref (u 2), .ref (u 3), .ref (u 4), .ref (u 5), .ref (u 6), .ref (u 7), .ref (u 8), .ref (u 9), .ref (u 10), .ref (u 11)])), ((u 0), .inl (cI, 12, .inl (fun _ => 0))), ((u 1), .inl (cI, 12, .inl (fun _ => 0))), ((u 2), .inl (cI, 12, .inl (fun _ => 0))), ((u 3), .inl (cI, 12, .inl (fun _ => 0))), ((u 4), .inl (cI, 12, .inl (fun _ => 0))), ((u 5), .inl (cI, 12, .inl (fun _ => 0))), ((u 6), .inl (cI, 504, .inl (fun _ => 0))), ((u 7), .inl (cI, 504, .inl (fun _ => 0))), ((u 8), .inl (cI, 504, .inl (fun _ => 0))), ((u 9), .inl (cI, 504, .inl (fun _ => 0))), ((u 10), .inl (cI, 504, .inl (fun _ => 0))), ((u 11), .inl (cI, 504, .inl (fun _ => 0)))]) (wr := [(h0, .inr (4, [.ref q_1, .ref q_3, .null, .null])), (q_1, .inr (3, [.int 0, .ref (u_2 0), .ref (u_2 1), .ref (u_2 2), .ref (u_2 3), .ref (u_2 4), .ref (u_2 5), .ref (u_2 6), .ref (u_2 7), .ref (u_2 8)])), ((u_2 0), .inl (cZ, 12, .inl (fun _ => 0))), ((u_2 1), .inl (cI, 12, .inl (fun _ => 0))), ((u_2 2), .inl (cI, 12, .inl (fun _ => 0))), ((u_2 3), .inl (cI, 12, .inl (fun _ => 0))), ((u_2 4), .inl (cI, 84, .inl (fun _ => 0))), ((u_2 5), .inl (cI, 84, .inl (fun _ => 0))), ((u_2 6), .inl (cI, 504, .inl (fun _ => 0))), ((u_2 7), .inl (cI, 504, .inl (fun _ => 0))), ((u_2 8), .inl (cI, 504, .inl (fun _ => 0))), (q_3, .inr (0, [.ref q_1, .ref (u_4 0), .ref (u_4 1), .ref (u_4 2), .ref (u_4 3)])), ((u_4 0), .inl (cI, 12, .inl (fun _ => 0))), ((u_4 1), .inl (cI, 72, .inl (fun _ => 0))), ((u_4 2), .inl (cI, 72, .inl (fun _ => 0))), ((u_4 3), .inl (cI, 12, .inl (fun _ => 0)))]) (wc := [(q_5, .inr (2, [.int 0, .int 0, .long 0, .int 0, .int 0, .null, .null, .null, .null, .null, .null, .null, .null, .null, .null, .null, .null]))]) [16] [0, 1, 2, 3, 4, 5, 6, 7, 8, 9, 10, 11, 12, 13, 14, 15] (va_runIN (As := []) (rest := [.ref q_5, .ref h0]) ⟨hx, hb, hml, hown, hts⟩ (c_X2_init l D cI cZ cJ cG H.size q_5) ⟨va_cnB 0 hts (pl_L (pl_m 79 (by decide +kernel))) rfl rfl rfl (hT.2.2.1 (.methodLinkNest RX4 27 yX2_init RX4) (by decide +kernel)) (hts (.initialized RX2) (pl_m 51 (by decide +kernel))) (by decide +kernel) ⟨(Nat.le_of_ble_eq_true rfl), (Nat.le_of_ble_eq_true rfl)⟩, rfl, (hts (.instanceMethod yX2_init) (pl_m 78 (by decide +kernel)))⟩ ⟨pn_M_blind, (pn_M_at hPc hDc hK)⟩ rfl rfl hl.1 rfl (lv_room (Nat.le_of_ble_eq_true rfl)) dX4_init_35 ⟨(Nat.le_of_ble_eq_true rfl), (Nat.le_of_ble_eq_true rfl)⟩) hS hA hP hD rfl rfl (by decide) (by decide) (fun u_6 H locs hw hP hD hS => ?_)
  have hP : va_P D vwCl [(h0, .inr (4, [.ref q_1, .ref q_3, .null, .null])), (q_1, .inr (3, [.int 0, .ref (u_2 0), .ref (u_2 1), .ref (u_2 2), .ref (u_2 3), .ref (u_2 4), .ref (u_2 5), .ref (u_2 6), .ref (u_2 7), .ref (u_2 8)])), ((u_2 0), .inl (cZ, 12, .inl (fun _ => 0))), ((u_2 1), .inl (cI, 12, .inl (fun _ => 0))), ((u_2 2), .inl (cI, 12, .inl (fun _ => 0))), ((u_2 3), .inl (cI, 12, .inl (fun _ => 0))), ((u_2 4), .inl (cI, 84, .inl (fun _ => 0))), ((u_2 5), .inl (cI, 84, .inl (fun _ => 0))), ((u_2 6), .inl (cI, 504, .inl (fun _ => 0))), ((u_2 7), .inl (cI, 504, .inl (fun _ => 0))), ((u_2 8), .inl (cI, 504, .inl (fun _ => 0))), (q_3, .inr (0, [.ref q_1, .ref (u_4 0), .ref (u_4 1), .ref (u_4 2), .ref (u_4 3)])), ((u_4 0), .inl (cI, 12, .inl (fun _ => 0))), ((u_4 1), .inl (cI, 72, .inl (fun _ => 0))), ((u_4 2), .inl (cI, 72, .inl (fun _ => 0))), ((u_4 3), .inl (cI, 12, .inl (fun _ => 0))), (q_5, .inr (2, [.int 0, .int 0, .long 0, .int 0, .int 0, .ref (u_6 0), .ref (u_6 1), .ref (u_6 2), .ref (u_6 3), .ref (u_6 4), .ref (u_6 5), .ref (u_6 6), .ref (u_6 7), .ref (u_6 8), .ref (u_6 9), .ref (u_6 10), .ref (u_6 11)])), ((u_6 0), .inl (cI, 12, .inl (fun _ => 0))), ((u_6 1), .inl (cI, 12, .inl (fun _ => 0))), ((u_6 2), .inl (cI, 12, .inl (fun _ => 0))), ((u_6 3), .inl (cI, 12, .inl (fun _ => 0))), ((u_6 4), .inl (cI, 12, .inl (fun _ => 0))), ((u_6 5), .inl (cI, 12, .inl (fun _ => 0))), ((u_6 6), .inl (cI, 504, .inl (fun _ => 0))), ((u_6 7), .inl (cI, 504, .inl (fun _ => 0))), ((u_6 8), .inl (cI, 504, .inl (fun _ => 0))), ((u_6 9), .inl (cI, 504, .inl (fun _ => 0))), ((u_6 10), .inl (cI, 504, .inl (fun _ => 0))), ((u_6 11), .inl (cI, 504, .inl (fun _ => 0)))] H := hP
  have hD : va_D (A) [(h0, .inr (4, [.ref q_1, .ref q_3, .null, .null])), (q_1, .inr (3, [.int 0, .ref (u_2 0), .ref (u_2 1), .ref (u_2 2), .ref (u_2 3), .ref (u_2 4), .ref (u_2 5), .ref (u_2 6), .ref (u_2 7), .ref (u_2 8)])), ((u_2 0), .inl (cZ, 12, .inl (fun _ => 0))), ((u_2 1), .inl (cI, 12, .inl (fun _ => 0))), ((u_2 2), .inl (cI, 12, .inl (fun _ => 0))), ((u_2 3), .inl (cI, 12, .inl (fun _ => 0))), ((u_2 4), .inl (cI, 84, .inl (fun _ => 0))), ((u_2 5), .inl (cI, 84, .inl (fun _ => 0))), ((u_2 6), .inl (cI, 504, .inl (fun _ => 0))), ((u_2 7), .inl (cI, 504, .inl (fun _ => 0))), ((u_2 8), .inl (cI, 504, .inl (fun _ => 0))), (q_3, .inr (0, [.ref q_1, .ref (u_4 0), .ref (u_4 1), .ref (u_4 2), .ref (u_4 3)])), ((u_4 0), .inl (cI, 12, .inl (fun _ => 0))), ((u_4 1), .inl (cI, 72, .inl (fun _ => 0))), ((u_4 2), .inl (cI, 72, .inl (fun _ => 0))), ((u_4 3), .inl (cI, 12, .inl (fun _ => 0))), (q_5, .inr (2, [.int 0, .int 0, .long 0, .int 0, .int 0, .ref (u_6 0), .ref (u_6 1), .ref (u_6 2), .ref (u_6 3), .ref (u_6 4), .ref (u_6 5), .ref (u_6 6), .ref (u_6 7), .ref (u_6 8), .ref (u_6 9), .ref (u_6 10), .ref (u_6 11)])), ((u_6 0), .inl (cI, 12, .inl (fun _ => 0))), ((u_6 1), .inl (cI, 12, .inl (fun _ => 0))), ((u_6 2), .inl (cI, 12, .inl (fun _ => 0))), ((u_6 3), .inl (cI, 12, .inl (fun _ => 0))), ((u_6 4), .inl (cI, 12, .inl (fun _ => 0))), ((u_6 5), .inl (cI, 12, .inl (fun _ => 0))), ((u_6 6), .inl (cI, 504, .inl (fun _ => 0))), ((u_6 7), .inl (cI, 504, .inl (fun _ => 0))), ((u_6 8), .inl (cI, 504, .inl (fun _ => 0))), ((u_6 9), .inl (cI, 504, .inl (fun _ => 0))), ((u_6 10), .inl (cI, 504, .inl (fun _ => 0))), ((u_6 11), .inl (cI, 504, .inl (fun _ => 0)))] := hD
  refine W.widen (k := 28) (n := 5024) (Nat.le_of_ble_eq_true rfl) (Nat.le_of_ble_eq_true rfl) ?_
  refine va_putF (D := D) (ci := 4) (v := .ref q_5) (ty := (.object "VtableTown$State")) (C := RX4) (T := TX4) (N := 4) hx hb hts inlX4 tyX4 tyX4_ok nmX4 hown hK hP hD hS 0 rfl rfl 2 (by decide) (hts (.fieldLink RX4 28 "VtableTown" "state" "LVtableTown$State;") (pl_m 52 (by decide +kernel))) (fun _ h9 => h9) rfl hin rfl (by decide +kernel) rfl rfl (Nat.le_of_ble_eq_true rfl) dX4_init_38 (fun H locs hP hD hS => ?_)
  have hP : va_P D vwCl [(h0, .inr (4, [.ref q_1, .ref q_3, .ref q_5, .null])), (q_1, .inr (3, [.int 0, .ref (u_2 0), .ref (u_2 1), .ref (u_2 2), .ref (u_2 3), .ref (u_2 4), .ref (u_2 5), .ref (u_2 6), .ref (u_2 7), .ref (u_2 8)])), ((u_2 0), .inl (cZ, 12, .inl (fun _ => 0))), ((u_2 1), .inl (cI, 12, .inl (fun _ => 0))), ((u_2 2), .inl (cI, 12, .inl (fun _ => 0))), ((u_2 3), .inl (cI, 12, .inl (fun _ => 0))), ((u_2 4), .inl (cI, 84, .inl (fun _ => 0))), ((u_2 5), .inl (cI, 84, .inl (fun _ => 0))), ((u_2 6), .inl (cI, 504, .inl (fun _ => 0))), ((u_2 7), .inl (cI, 504, .inl (fun _ => 0))), ((u_2 8), .inl (cI, 504, .inl (fun _ => 0))), (q_3, .inr (0, [.ref q_1, .ref (u_4 0), .ref (u_4 1), .ref (u_4 2), .ref (u_4 3)])), ((u_4 0), .inl (cI, 12, .inl (fun _ => 0))), ((u_4 1), .inl (cI, 72, .inl (fun _ => 0))), ((u_4 2), .inl (cI, 72, .inl (fun _ => 0))), ((u_4 3), .inl (cI, 12, .inl (fun _ => 0))), (q_5, .inr (2, [.int 0, .int 0, .long 0, .int 0, .int 0, .ref (u_6 0), .ref (u_6 1), .ref (u_6 2), .ref (u_6 3), .ref (u_6 4), .ref (u_6 5), .ref (u_6 6), .ref (u_6 7), .ref (u_6 8), .ref (u_6 9), .ref (u_6 10), .ref (u_6 11)])), ((u_6 0), .inl (cI, 12, .inl (fun _ => 0))), ((u_6 1), .inl (cI, 12, .inl (fun _ => 0))), ((u_6 2), .inl (cI, 12, .inl (fun _ => 0))), ((u_6 3), .inl (cI, 12, .inl (fun _ => 0))), ((u_6 4), .inl (cI, 12, .inl (fun _ => 0))), ((u_6 5), .inl (cI, 12, .inl (fun _ => 0))), ((u_6 6), .inl (cI, 504, .inl (fun _ => 0))), ((u_6 7), .inl (cI, 504, .inl (fun _ => 0))), ((u_6 8), .inl (cI, 504, .inl (fun _ => 0))), ((u_6 9), .inl (cI, 504, .inl (fun _ => 0))), ((u_6 10), .inl (cI, 504, .inl (fun _ => 0))), ((u_6 11), .inl (cI, 504, .inl (fun _ => 0)))] H := hP
  have hD : va_D (A) [(h0, .inr (4, [.ref q_1, .ref q_3, .ref q_5, .null])), (q_1, .inr (3, [.int 0, .ref (u_2 0), .ref (u_2 1), .ref (u_2 2), .ref (u_2 3), .ref (u_2 4), .ref (u_2 5), .ref (u_2 6), .ref (u_2 7), .ref (u_2 8)])), ((u_2 0), .inl (cZ, 12, .inl (fun _ => 0))), ((u_2 1), .inl (cI, 12, .inl (fun _ => 0))), ((u_2 2), .inl (cI, 12, .inl (fun _ => 0))), ((u_2 3), .inl (cI, 12, .inl (fun _ => 0))), ((u_2 4), .inl (cI, 84, .inl (fun _ => 0))), ((u_2 5), .inl (cI, 84, .inl (fun _ => 0))), ((u_2 6), .inl (cI, 504, .inl (fun _ => 0))), ((u_2 7), .inl (cI, 504, .inl (fun _ => 0))), ((u_2 8), .inl (cI, 504, .inl (fun _ => 0))), (q_3, .inr (0, [.ref q_1, .ref (u_4 0), .ref (u_4 1), .ref (u_4 2), .ref (u_4 3)])), ((u_4 0), .inl (cI, 12, .inl (fun _ => 0))), ((u_4 1), .inl (cI, 72, .inl (fun _ => 0))), ((u_4 2), .inl (cI, 72, .inl (fun _ => 0))), ((u_4 3), .inl (cI, 12, .inl (fun _ => 0))), (q_5, .inr (2, [.int 0, .int 0, .long 0, .int 0, .int 0, .ref (u_6 0), .ref (u_6 1), .ref (u_6 2), .ref (u_6 3), .ref (u_6 4), .ref (u_6 5), .ref (u_6 6), .ref (u_6 7), .ref (u_6 8), .ref (u_6 9), .ref (u_6 10), .ref (u_6 11)])), ((u_6 0), .inl (cI, 12, .inl (fun _ => 0))), ((u_6 1), .inl (cI, 12, .inl (fun _ => 0))), ((u_6 2), .inl (cI, 12, .inl (fun _ => 0))), ((u_6 3), .inl (cI, 12, .inl (fun _ => 0))), ((u_6 4), .inl (cI, 12, .inl (fun _ => 0))), ((u_6 5), .inl (cI, 12, .inl (fun _ => 0))), ((u_6 6), .inl (cI, 504, .inl (fun _ => 0))), ((u_6 7), .inl (cI, 504, .inl (fun _ => 0))), ((u_6 8), .inl (cI, 504, .inl (fun _ => 0))), ((u_6 9), .inl (cI, 504, .inl (fun _ => 0))), ((u_6 10), .inl (cI, 504, .inl (fun _ => 0))), ((u_6 11), .inl (cI, 504, .inl (fun _ => 0)))] := hD
  refine lv_aload_n hx hb dX4_init_41 rfl (lv_at hl 0 rfl) ?_
  refine va_new (ci := 1) (fs := [.null, .null, .null, .null, .null, .null, .null, .int 0, .int 0, .int 0, .int 0, .int 0]) (C := RX1) (T := TX1) (N := 12) hx hb hts inlX1 tyX1 tyX1_ok hown (hts (.classLink RX4 32 RX1) (pl_m 53 (by decide +kernel))) (hts (.instantiable RX1 12) (pl_m 54 (by decide +kernel))) (hts (.initialized RX1) (pl_m 55 (by decide +kernel))) hK hP hD hS hA rfl (fun j hj => by rcases (show j = 0 ∨ j = 1 ∨ j = 2 ∨ j = 3 ∨ j = 4 ∨ j = 5 ∨ j = 6 ∨ j = 7 ∨ j = 8 ∨ j = 9 ∨ j = 10 ∨ j = 11 by omega) with rfl | rfl | rfl | rfl | rfl | rfl | rfl | rfl | rfl | rfl | rfl | rfl <;> rfl) (Nat.le_of_ble_eq_true rfl) (Nat.le_of_ble_eq_true rfl) dX4_init_42 (fun q_7 H hP hD hS => ?_)
  have hP : va_P D vwCl [(h0, .inr (4, [.ref q_1, .ref q_3, .ref q_5, .null])), (q_1, .inr (3, [.int 0, .ref (u_2 0), .ref (u_2 1), .ref (u_2 2), .ref (u_2 3), .ref (u_2 4), .ref (u_2 5), .ref (u_2 6), .ref (u_2 7), .ref (u_2 8)])), ((u_2 0), .inl (cZ, 12, .inl (fun _ => 0))), ((u_2 1), .inl (cI, 12, .inl (fun _ => 0))), ((u_2 2), .inl (cI, 12, .inl (fun _ => 0))), ((u_2 3), .inl (cI, 12, .inl (fun _ => 0))), ((u_2 4), .inl (cI, 84, .inl (fun _ => 0))), ((u_2 5), .inl (cI, 84, .inl (fun _ => 0))), ((u_2 6), .inl (cI, 504, .inl (fun _ => 0))), ((u_2 7), .inl (cI, 504, .inl (fun _ => 0))), ((u_2 8), .inl (cI, 504, .inl (fun _ => 0))), (q_3, .inr (0, [.ref q_1, .ref (u_4 0), .ref (u_4 1), .ref (u_4 2), .ref (u_4 3)])), ((u_4 0), .inl (cI, 12, .inl (fun _ => 0))), ((u_4 1), .inl (cI, 72, .inl (fun _ => 0))), ((u_4 2), .inl (cI, 72, .inl (fun _ => 0))), ((u_4 3), .inl (cI, 12, .inl (fun _ => 0))), (q_5, .inr (2, [.int 0, .int 0, .long 0, .int 0, .int 0, .ref (u_6 0), .ref (u_6 1), .ref (u_6 2), .ref (u_6 3), .ref (u_6 4), .ref (u_6 5), .ref (u_6 6), .ref (u_6 7), .ref (u_6 8), .ref (u_6 9), .ref (u_6 10), .ref (u_6 11)])), ((u_6 0), .inl (cI, 12, .inl (fun _ => 0))), ((u_6 1), .inl (cI, 12, .inl (fun _ => 0))), ((u_6 2), .inl (cI, 12, .inl (fun _ => 0))), ((u_6 3), .inl (cI, 12, .inl (fun _ => 0))), ((u_6 4), .inl (cI, 12, .inl (fun _ => 0))), ((u_6 5), .inl (cI, 12, .inl (fun _ => 0))), ((u_6 6), .inl (cI, 504, .inl (fun _ => 0))), ((u_6 7), .inl (cI, 504, .inl (fun _ => 0))), ((u_6 8), .inl (cI, 504, .inl (fun _ => 0))), ((u_6 9), .inl (cI, 504, .inl (fun _ => 0))), ((u_6 10), .inl (cI, 504, .inl (fun _ => 0))), ((u_6 11), .inl (cI, 504, .inl (fun _ => 0))), (q_7, .inr (1, [.null, .null, .null, .null, .null, .null, .null, .int 0, .int 0, .int 0, .int 0, .int 0]))] H := hP
  have hD : va_D (A) [(h0, .inr (4, [.ref q_1, .ref q_3, .ref q_5, .null])), (q_1, .inr (3, [.int 0, .ref (u_2 0), .ref (u_2 1), .ref (u_2 2), .ref (u_2 3), .ref (u_2 4), .ref (u_2 5), .ref (u_2 6), .ref (u_2 7), .ref (u_2 8)])), ((u_2 0), .inl (cZ, 12, .inl (fun _ => 0))), ((u_2 1), .inl (cI, 12, .inl (fun _ => 0))), ((u_2 2), .inl (cI, 12, .inl (fun _ => 0))), ((u_2 3), .inl (cI, 12, .inl (fun _ => 0))), ((u_2 4), .inl (cI, 84, .inl (fun _ => 0))), ((u_2 5), .inl (cI, 84, .inl (fun _ => 0))), ((u_2 6), .inl (cI, 504, .inl (fun _ => 0))), ((u_2 7), .inl (cI, 504, .inl (fun _ => 0))), ((u_2 8), .inl (cI, 504, .inl (fun _ => 0))), (q_3, .inr (0, [.ref q_1, .ref (u_4 0), .ref (u_4 1), .ref (u_4 2), .ref (u_4 3)])), ((u_4 0), .inl (cI, 12, .inl (fun _ => 0))), ((u_4 1), .inl (cI, 72, .inl (fun _ => 0))), ((u_4 2), .inl (cI, 72, .inl (fun _ => 0))), ((u_4 3), .inl (cI, 12, .inl (fun _ => 0))), (q_5, .inr (2, [.int 0, .int 0, .long 0, .int 0, .int 0, .ref (u_6 0), .ref (u_6 1), .ref (u_6 2), .ref (u_6 3), .ref (u_6 4), .ref (u_6 5), .ref (u_6 6), .ref (u_6 7), .ref (u_6 8), .ref (u_6 9), .ref (u_6 10), .ref (u_6 11)])), ((u_6 0), .inl (cI, 12, .inl (fun _ => 0))), ((u_6 1), .inl (cI, 12, .inl (fun _ => 0))), ((u_6 2), .inl (cI, 12, .inl (fun _ => 0))), ((u_6 3), .inl (cI, 12, .inl (fun _ => 0))), ((u_6 4), .inl (cI, 12, .inl (fun _ => 0))), ((u_6 5), .inl (cI, 12, .inl (fun _ => 0))), ((u_6 6), .inl (cI, 504, .inl (fun _ => 0))), ((u_6 7), .inl (cI, 504, .inl (fun _ => 0))), ((u_6 8), .inl (cI, 504, .inl (fun _ => 0))), ((u_6 9), .inl (cI, 504, .inl (fun _ => 0))), ((u_6 10), .inl (cI, 504, .inl (fun _ => 0))), ((u_6 11), .inl (cI, 504, .inl (fun _ => 0))), (q_7, .inr (1, [.null, .null, .null, .null, .null, .null, .null, .int 0, .int 0, .int 0, .int 0, .int 0]))] := hD
  refine W.widen (k := 29) (n := 5036) (Nat.le_of_ble_eq_true rfl) (Nat.le_of_ble_eq_true rfl) ?_
  refine lv_dup hx hb dX4_init_45 rfl ?_
  refine lv_aload_n hx hb dX4_init_46 rfl (lv_at hl 0 rfl) ?_
  refine va_get (D := D) (ci := 4) (v := .ref q_1) (C := RX4) (T := TX4) (N := 4) hx hb hts inlX4 hown hK hP 0 rfl rfl 0 (by decide) (hts (.fieldLink RX4 12 "VtableTown" "told" "LVtableTown$Told;") (pl_m 44 (by decide +kernel))) (fun _ h9 => h9) rfl dX4_init_47 ?_
  refine lv_aload_n hx hb dX4_init_50 rfl (lv_at hl 0 rfl) ?_
  refine va_get (D := D) (ci := 4) (v := .ref q_3) (C := RX4) (T := TX4) (N := 4) hx hb hts inlX4 hown hK hP 0 rfl rfl 1 (by decide) (hts (.fieldLink RX4 21 "VtableTown" "finder" "LVtableTown$Finder;") (pl_m 48 (by decide +kernel))) (fun _ h9 => h9) rfl dX4_init_51 ?_
  refine lv_aload_n hx hb dX4_init_54 rfl (lv_at hl 0 rfl) ?_
  refine va_get (D := D) (ci := 4) (v := .ref q_5) (C := RX4) (T := TX4) (N := 4) hx hb hts inlX4 hown hK hP 0 rfl rfl 2 (by decide) (hts (.fieldLink RX4 28 "VtableTown" "state" "LVtableTown$State;") (pl_m 52 (by decide +kernel))) (fun _ h9 => h9) rfl dX4_init_55 ?_
  have hPc := hP.sub (ws' := [(q_7, .inr (1, [.null, .null, .null, .null, .null, .null, .null, .int 0, .int 0, .int 0, .int 0, .int 0]))]) [29] rfl
  have hDc := hD.sub (ws' := [(q_7, .inr (1, [.null, .null, .null, .null, .null, .null, .null, .int 0, .int 0, .int 0, .int 0, .int 0]))]) [29] (by decide) rfl
  refine pn_mv (w1 := fun (u : Nat → Nat) => [(q_7, .inr (1, [.ref q_1, .ref q_3, .ref q_5, .ref (u 0), .ref (u 13), .ref (u 14), .ref (u 15), .int 0, .int 0, .int 0, .int 0, .int 0])), ((u 0), .inr (2, [.int 0, .int 0, .long 0, .int 0, .int 0, .ref (u 1), .ref (u 2), .ref (u 3), .ref (u 4), .ref (u 5), .ref (u 6), .ref (u 7), .ref (u 8), .ref (u 9), .ref (u 10), .ref (u 11), .ref (u 12)])), ((u 1), .inl (cI, 12, .inl (fun _ => 0))), ((u 2), .inl (cI, 12, .inl (fun _ => 0))), ((u 3), .inl (cI, 12, .inl (fun _ => 0))), ((u 4), .inl (cI, 12, .inl (fun _ => 0))), ((u 5), .inl (cI, 12, .inl (fun _ => 0))), ((u 6), .inl (cI, 12, .inl (fun _ => 0))), ((u 7), .inl (cI, 504, .inl (fun _ => 0))), ((u 8), .inl (cI, 504, .inl (fun _ => 0))), ((u 9), .inl (cI, 504, .inl (fun _ => 0))), ((u 10), .inl (cI, 504, .inl (fun _ => 0))), ((u 11), .inl (cI, 504, .inl (fun _ => 0))), ((u 12), .inl (cI, 504, .inl (fun _ => 0))), ((u 13), .inl (cI, 20, .inl (fun _ => 0))), ((u 14), .inl (cI, 21, .inl (fun _ => 0))), ((u 15), .inl (cI, 1008, .inl (fun _ => 0)))]) (wr := [(h0, .inr (4, [.ref q_1, .ref q_3, .ref q_5, .null])), (q_1, .inr (3, [.int 0, .ref (u_2 0), .ref (u_2 1), .ref (u_2 2), .ref (u_2 3), .ref (u_2 4), .ref (u_2 5), .ref (u_2 6), .ref (u_2 7), .ref (u_2 8)])), ((u_2 0), .inl (cZ, 12, .inl (fun _ => 0))), ((u_2 1), .inl (cI, 12, .inl (fun _ => 0))), ((u_2 2), .inl (cI, 12, .inl (fun _ => 0))), ((u_2 3), .inl (cI, 12, .inl (fun _ => 0))), ((u_2 4), .inl (cI, 84, .inl (fun _ => 0))), ((u_2 5), .inl (cI, 84, .inl (fun _ => 0))), ((u_2 6), .inl (cI, 504, .inl (fun _ => 0))), ((u_2 7), .inl (cI, 504, .inl (fun _ => 0))), ((u_2 8), .inl (cI, 504, .inl (fun _ => 0))), (q_3, .inr (0, [.ref q_1, .ref (u_4 0), .ref (u_4 1), .ref (u_4 2), .ref (u_4 3)])), ((u_4 0), .inl (cI, 12, .inl (fun _ => 0))), ((u_4 1), .inl (cI, 72, .inl (fun _ => 0))), ((u_4 2), .inl (cI, 72, .inl (fun _ => 0))), ((u_4 3), .inl (cI, 12, .inl (fun _ => 0))), (q_5, .inr (2, [.int 0, .int 0, .long 0, .int 0, .int 0, .ref (u_6 0), .ref (u_6 1), .ref (u_6 2), .ref (u_6 3), .ref (u_6 4), .ref (u_6 5), .ref (u_6 6), .ref (u_6 7), .ref (u_6 8), .ref (u_6 9), .ref (u_6 10), .ref (u_6 11)])), ((u_6 0), .inl (cI, 12, .inl (fun _ => 0))), ((u_6 1), .inl (cI, 12, .inl (fun _ => 0))), ((u_6 2), .inl (cI, 12, .inl (fun _ => 0))), ((u_6 3), .inl (cI, 12, .inl (fun _ => 0))), ((u_6 4), .inl (cI, 12, .inl (fun _ => 0))), ((u_6 5), .inl (cI, 12, .inl (fun _ => 0))), ((u_6 6), .inl (cI, 504, .inl (fun _ => 0))), ((u_6 7), .inl (cI, 504, .inl (fun _ => 0))), ((u_6 8), .inl (cI, 504, .inl (fun _ => 0))), ((u_6 9), .inl (cI, 504, .inl (fun _ => 0))), ((u_6 10), .inl (cI, 504, .inl (fun _ => 0))), ((u_6 11), .inl (cI, 504, .inl (fun _ => 0)))]) (wc := [(q_7, .inr (1, [.null, .null, .null, .null, .null, .null, .null, .int 0, .int 0, .int 0, .int 0, .int 0]))]) [29] [0, 1, 2, 3, 4, 5, 6, 7, 8, 9, 10, 11, 12, 13, 14, 15, 16, 17, 18, 19, 20, 21, 22, 23, 24, 25, 26, 27, 28] (va_runI (As := [.ref q_1, .ref q_3, .ref q_5]) (rest := [.ref q_7, .ref h0]) ⟨hx, hb, hml, hown, hts⟩ (c_X1_init l D cI cZ cJ cG H.size q_7 q_1 q_3 q_5) (cwI 3 hts (pl_L (pl_m 95 (by decide +kernel))) rfl rfl rfl (hts (.initialized RX1) (pl_m 55 (by decide +kernel))) (hts (.methodLink RX4 34 yX1_init) (pl_m 93 (by decide +kernel))) (hts (.instanceMethod yX1_init) (pl_m 94 (by decide +kernel))) rfl (by decide +kernel) ⟨(Nat.le_of_ble_eq_true rfl), (Nat.le_of_ble_eq_true rfl)⟩) ⟨pn_X_blind, (pn_X_at hPc hDc hK hS hZ hT (va_free (wc := [(q_7, .inr (1, [.null, .null, .null, .null, .null, .null, .null, .int 0, .int 0, .int 0, .int 0, .int 0]))]) hD hS hA [29] rfl))⟩ rfl rfl hl.1 rfl (lv_room (Nat.le_of_ble_eq_true rfl)) dX4_init_58 ⟨(Nat.le_of_ble_eq_true rfl), (Nat.le_of_ble_eq_true rfl)⟩) hS hA hP hD rfl rfl (by decide) (by decide) (fun u_8 H locs hw hP hD hS => ?_)
  have hP : va_P D vwCl [(h0, .inr (4, [.ref q_1, .ref q_3, .ref q_5, .null])), (q_1, .inr (3, [.int 0, .ref (u_2 0), .ref (u_2 1), .ref (u_2 2), .ref (u_2 3), .ref (u_2 4), .ref (u_2 5), .ref (u_2 6), .ref (u_2 7), .ref (u_2 8)])), ((u_2 0), .inl (cZ, 12, .inl (fun _ => 0))), ((u_2 1), .inl (cI, 12, .inl (fun _ => 0))), ((u_2 2), .inl (cI, 12, .inl (fun _ => 0))), ((u_2 3), .inl (cI, 12, .inl (fun _ => 0))), ((u_2 4), .inl (cI, 84, .inl (fun _ => 0))), ((u_2 5), .inl (cI, 84, .inl (fun _ => 0))), ((u_2 6), .inl (cI, 504, .inl (fun _ => 0))), ((u_2 7), .inl (cI, 504, .inl (fun _ => 0))), ((u_2 8), .inl (cI, 504, .inl (fun _ => 0))), (q_3, .inr (0, [.ref q_1, .ref (u_4 0), .ref (u_4 1), .ref (u_4 2), .ref (u_4 3)])), ((u_4 0), .inl (cI, 12, .inl (fun _ => 0))), ((u_4 1), .inl (cI, 72, .inl (fun _ => 0))), ((u_4 2), .inl (cI, 72, .inl (fun _ => 0))), ((u_4 3), .inl (cI, 12, .inl (fun _ => 0))), (q_5, .inr (2, [.int 0, .int 0, .long 0, .int 0, .int 0, .ref (u_6 0), .ref (u_6 1), .ref (u_6 2), .ref (u_6 3), .ref (u_6 4), .ref (u_6 5), .ref (u_6 6), .ref (u_6 7), .ref (u_6 8), .ref (u_6 9), .ref (u_6 10), .ref (u_6 11)])), ((u_6 0), .inl (cI, 12, .inl (fun _ => 0))), ((u_6 1), .inl (cI, 12, .inl (fun _ => 0))), ((u_6 2), .inl (cI, 12, .inl (fun _ => 0))), ((u_6 3), .inl (cI, 12, .inl (fun _ => 0))), ((u_6 4), .inl (cI, 12, .inl (fun _ => 0))), ((u_6 5), .inl (cI, 12, .inl (fun _ => 0))), ((u_6 6), .inl (cI, 504, .inl (fun _ => 0))), ((u_6 7), .inl (cI, 504, .inl (fun _ => 0))), ((u_6 8), .inl (cI, 504, .inl (fun _ => 0))), ((u_6 9), .inl (cI, 504, .inl (fun _ => 0))), ((u_6 10), .inl (cI, 504, .inl (fun _ => 0))), ((u_6 11), .inl (cI, 504, .inl (fun _ => 0))), (q_7, .inr (1, [.ref q_1, .ref q_3, .ref q_5, .ref (u_8 0), .ref (u_8 13), .ref (u_8 14), .ref (u_8 15), .int 0, .int 0, .int 0, .int 0, .int 0])), ((u_8 0), .inr (2, [.int 0, .int 0, .long 0, .int 0, .int 0, .ref (u_8 1), .ref (u_8 2), .ref (u_8 3), .ref (u_8 4), .ref (u_8 5), .ref (u_8 6), .ref (u_8 7), .ref (u_8 8), .ref (u_8 9), .ref (u_8 10), .ref (u_8 11), .ref (u_8 12)])), ((u_8 1), .inl (cI, 12, .inl (fun _ => 0))), ((u_8 2), .inl (cI, 12, .inl (fun _ => 0))), ((u_8 3), .inl (cI, 12, .inl (fun _ => 0))), ((u_8 4), .inl (cI, 12, .inl (fun _ => 0))), ((u_8 5), .inl (cI, 12, .inl (fun _ => 0))), ((u_8 6), .inl (cI, 12, .inl (fun _ => 0))), ((u_8 7), .inl (cI, 504, .inl (fun _ => 0))), ((u_8 8), .inl (cI, 504, .inl (fun _ => 0))), ((u_8 9), .inl (cI, 504, .inl (fun _ => 0))), ((u_8 10), .inl (cI, 504, .inl (fun _ => 0))), ((u_8 11), .inl (cI, 504, .inl (fun _ => 0))), ((u_8 12), .inl (cI, 504, .inl (fun _ => 0))), ((u_8 13), .inl (cI, 20, .inl (fun _ => 0))), ((u_8 14), .inl (cI, 21, .inl (fun _ => 0))), ((u_8 15), .inl (cI, 1008, .inl (fun _ => 0)))] H := hP
  have hD : va_D (A) [(h0, .inr (4, [.ref q_1, .ref q_3, .ref q_5, .null])), (q_1, .inr (3, [.int 0, .ref (u_2 0), .ref (u_2 1), .ref (u_2 2), .ref (u_2 3), .ref (u_2 4), .ref (u_2 5), .ref (u_2 6), .ref (u_2 7), .ref (u_2 8)])), ((u_2 0), .inl (cZ, 12, .inl (fun _ => 0))), ((u_2 1), .inl (cI, 12, .inl (fun _ => 0))), ((u_2 2), .inl (cI, 12, .inl (fun _ => 0))), ((u_2 3), .inl (cI, 12, .inl (fun _ => 0))), ((u_2 4), .inl (cI, 84, .inl (fun _ => 0))), ((u_2 5), .inl (cI, 84, .inl (fun _ => 0))), ((u_2 6), .inl (cI, 504, .inl (fun _ => 0))), ((u_2 7), .inl (cI, 504, .inl (fun _ => 0))), ((u_2 8), .inl (cI, 504, .inl (fun _ => 0))), (q_3, .inr (0, [.ref q_1, .ref (u_4 0), .ref (u_4 1), .ref (u_4 2), .ref (u_4 3)])), ((u_4 0), .inl (cI, 12, .inl (fun _ => 0))), ((u_4 1), .inl (cI, 72, .inl (fun _ => 0))), ((u_4 2), .inl (cI, 72, .inl (fun _ => 0))), ((u_4 3), .inl (cI, 12, .inl (fun _ => 0))), (q_5, .inr (2, [.int 0, .int 0, .long 0, .int 0, .int 0, .ref (u_6 0), .ref (u_6 1), .ref (u_6 2), .ref (u_6 3), .ref (u_6 4), .ref (u_6 5), .ref (u_6 6), .ref (u_6 7), .ref (u_6 8), .ref (u_6 9), .ref (u_6 10), .ref (u_6 11)])), ((u_6 0), .inl (cI, 12, .inl (fun _ => 0))), ((u_6 1), .inl (cI, 12, .inl (fun _ => 0))), ((u_6 2), .inl (cI, 12, .inl (fun _ => 0))), ((u_6 3), .inl (cI, 12, .inl (fun _ => 0))), ((u_6 4), .inl (cI, 12, .inl (fun _ => 0))), ((u_6 5), .inl (cI, 12, .inl (fun _ => 0))), ((u_6 6), .inl (cI, 504, .inl (fun _ => 0))), ((u_6 7), .inl (cI, 504, .inl (fun _ => 0))), ((u_6 8), .inl (cI, 504, .inl (fun _ => 0))), ((u_6 9), .inl (cI, 504, .inl (fun _ => 0))), ((u_6 10), .inl (cI, 504, .inl (fun _ => 0))), ((u_6 11), .inl (cI, 504, .inl (fun _ => 0))), (q_7, .inr (1, [.ref q_1, .ref q_3, .ref q_5, .ref (u_8 0), .ref (u_8 13), .ref (u_8 14), .ref (u_8 15), .int 0, .int 0, .int 0, .int 0, .int 0])), ((u_8 0), .inr (2, [.int 0, .int 0, .long 0, .int 0, .int 0, .ref (u_8 1), .ref (u_8 2), .ref (u_8 3), .ref (u_8 4), .ref (u_8 5), .ref (u_8 6), .ref (u_8 7), .ref (u_8 8), .ref (u_8 9), .ref (u_8 10), .ref (u_8 11), .ref (u_8 12)])), ((u_8 1), .inl (cI, 12, .inl (fun _ => 0))), ((u_8 2), .inl (cI, 12, .inl (fun _ => 0))), ((u_8 3), .inl (cI, 12, .inl (fun _ => 0))), ((u_8 4), .inl (cI, 12, .inl (fun _ => 0))), ((u_8 5), .inl (cI, 12, .inl (fun _ => 0))), ((u_8 6), .inl (cI, 12, .inl (fun _ => 0))), ((u_8 7), .inl (cI, 504, .inl (fun _ => 0))), ((u_8 8), .inl (cI, 504, .inl (fun _ => 0))), ((u_8 9), .inl (cI, 504, .inl (fun _ => 0))), ((u_8 10), .inl (cI, 504, .inl (fun _ => 0))), ((u_8 11), .inl (cI, 504, .inl (fun _ => 0))), ((u_8 12), .inl (cI, 504, .inl (fun _ => 0))), ((u_8 13), .inl (cI, 20, .inl (fun _ => 0))), ((u_8 14), .inl (cI, 21, .inl (fun _ => 0))), ((u_8 15), .inl (cI, 1008, .inl (fun _ => 0)))] := hD
  refine W.widen (k := 45) (n := 9198) (Nat.le_of_ble_eq_true rfl) (Nat.le_of_ble_eq_true rfl) ?_
  refine va_putF (D := D) (ci := 4) (v := .ref q_7) (ty := (.object "VtableTown$Machine")) (C := RX4) (T := TX4) (N := 4) hx hb hts inlX4 tyX4 tyX4_ok nmX4 hown hK hP hD hS 0 rfl rfl 3 (by decide) (hts (.fieldLink RX4 37 "VtableTown" "machine" "LVtableTown$Machine;") (pl_m 56 (by decide +kernel))) (fun _ h9 => h9) rfl hin rfl (by decide +kernel) rfl rfl (Nat.le_of_ble_eq_true rfl) dX4_init_61 (fun H locs hP hD hS => ?_)
  have hP : va_P D vwCl [(h0, .inr (4, [.ref q_1, .ref q_3, .ref q_5, .ref q_7])), (q_1, .inr (3, [.int 0, .ref (u_2 0), .ref (u_2 1), .ref (u_2 2), .ref (u_2 3), .ref (u_2 4), .ref (u_2 5), .ref (u_2 6), .ref (u_2 7), .ref (u_2 8)])), ((u_2 0), .inl (cZ, 12, .inl (fun _ => 0))), ((u_2 1), .inl (cI, 12, .inl (fun _ => 0))), ((u_2 2), .inl (cI, 12, .inl (fun _ => 0))), ((u_2 3), .inl (cI, 12, .inl (fun _ => 0))), ((u_2 4), .inl (cI, 84, .inl (fun _ => 0))), ((u_2 5), .inl (cI, 84, .inl (fun _ => 0))), ((u_2 6), .inl (cI, 504, .inl (fun _ => 0))), ((u_2 7), .inl (cI, 504, .inl (fun _ => 0))), ((u_2 8), .inl (cI, 504, .inl (fun _ => 0))), (q_3, .inr (0, [.ref q_1, .ref (u_4 0), .ref (u_4 1), .ref (u_4 2), .ref (u_4 3)])), ((u_4 0), .inl (cI, 12, .inl (fun _ => 0))), ((u_4 1), .inl (cI, 72, .inl (fun _ => 0))), ((u_4 2), .inl (cI, 72, .inl (fun _ => 0))), ((u_4 3), .inl (cI, 12, .inl (fun _ => 0))), (q_5, .inr (2, [.int 0, .int 0, .long 0, .int 0, .int 0, .ref (u_6 0), .ref (u_6 1), .ref (u_6 2), .ref (u_6 3), .ref (u_6 4), .ref (u_6 5), .ref (u_6 6), .ref (u_6 7), .ref (u_6 8), .ref (u_6 9), .ref (u_6 10), .ref (u_6 11)])), ((u_6 0), .inl (cI, 12, .inl (fun _ => 0))), ((u_6 1), .inl (cI, 12, .inl (fun _ => 0))), ((u_6 2), .inl (cI, 12, .inl (fun _ => 0))), ((u_6 3), .inl (cI, 12, .inl (fun _ => 0))), ((u_6 4), .inl (cI, 12, .inl (fun _ => 0))), ((u_6 5), .inl (cI, 12, .inl (fun _ => 0))), ((u_6 6), .inl (cI, 504, .inl (fun _ => 0))), ((u_6 7), .inl (cI, 504, .inl (fun _ => 0))), ((u_6 8), .inl (cI, 504, .inl (fun _ => 0))), ((u_6 9), .inl (cI, 504, .inl (fun _ => 0))), ((u_6 10), .inl (cI, 504, .inl (fun _ => 0))), ((u_6 11), .inl (cI, 504, .inl (fun _ => 0))), (q_7, .inr (1, [.ref q_1, .ref q_3, .ref q_5, .ref (u_8 0), .ref (u_8 13), .ref (u_8 14), .ref (u_8 15), .int 0, .int 0, .int 0, .int 0, .int 0])), ((u_8 0), .inr (2, [.int 0, .int 0, .long 0, .int 0, .int 0, .ref (u_8 1), .ref (u_8 2), .ref (u_8 3), .ref (u_8 4), .ref (u_8 5), .ref (u_8 6), .ref (u_8 7), .ref (u_8 8), .ref (u_8 9), .ref (u_8 10), .ref (u_8 11), .ref (u_8 12)])), ((u_8 1), .inl (cI, 12, .inl (fun _ => 0))), ((u_8 2), .inl (cI, 12, .inl (fun _ => 0))), ((u_8 3), .inl (cI, 12, .inl (fun _ => 0))), ((u_8 4), .inl (cI, 12, .inl (fun _ => 0))), ((u_8 5), .inl (cI, 12, .inl (fun _ => 0))), ((u_8 6), .inl (cI, 12, .inl (fun _ => 0))), ((u_8 7), .inl (cI, 504, .inl (fun _ => 0))), ((u_8 8), .inl (cI, 504, .inl (fun _ => 0))), ((u_8 9), .inl (cI, 504, .inl (fun _ => 0))), ((u_8 10), .inl (cI, 504, .inl (fun _ => 0))), ((u_8 11), .inl (cI, 504, .inl (fun _ => 0))), ((u_8 12), .inl (cI, 504, .inl (fun _ => 0))), ((u_8 13), .inl (cI, 20, .inl (fun _ => 0))), ((u_8 14), .inl (cI, 21, .inl (fun _ => 0))), ((u_8 15), .inl (cI, 1008, .inl (fun _ => 0)))] H := hP
  have hD : va_D (A) [(h0, .inr (4, [.ref q_1, .ref q_3, .ref q_5, .ref q_7])), (q_1, .inr (3, [.int 0, .ref (u_2 0), .ref (u_2 1), .ref (u_2 2), .ref (u_2 3), .ref (u_2 4), .ref (u_2 5), .ref (u_2 6), .ref (u_2 7), .ref (u_2 8)])), ((u_2 0), .inl (cZ, 12, .inl (fun _ => 0))), ((u_2 1), .inl (cI, 12, .inl (fun _ => 0))), ((u_2 2), .inl (cI, 12, .inl (fun _ => 0))), ((u_2 3), .inl (cI, 12, .inl (fun _ => 0))), ((u_2 4), .inl (cI, 84, .inl (fun _ => 0))), ((u_2 5), .inl (cI, 84, .inl (fun _ => 0))), ((u_2 6), .inl (cI, 504, .inl (fun _ => 0))), ((u_2 7), .inl (cI, 504, .inl (fun _ => 0))), ((u_2 8), .inl (cI, 504, .inl (fun _ => 0))), (q_3, .inr (0, [.ref q_1, .ref (u_4 0), .ref (u_4 1), .ref (u_4 2), .ref (u_4 3)])), ((u_4 0), .inl (cI, 12, .inl (fun _ => 0))), ((u_4 1), .inl (cI, 72, .inl (fun _ => 0))), ((u_4 2), .inl (cI, 72, .inl (fun _ => 0))), ((u_4 3), .inl (cI, 12, .inl (fun _ => 0))), (q_5, .inr (2, [.int 0, .int 0, .long 0, .int 0, .int 0, .ref (u_6 0), .ref (u_6 1), .ref (u_6 2), .ref (u_6 3), .ref (u_6 4), .ref (u_6 5), .ref (u_6 6), .ref (u_6 7), .ref (u_6 8), .ref (u_6 9), .ref (u_6 10), .ref (u_6 11)])), ((u_6 0), .inl (cI, 12, .inl (fun _ => 0))), ((u_6 1), .inl (cI, 12, .inl (fun _ => 0))), ((u_6 2), .inl (cI, 12, .inl (fun _ => 0))), ((u_6 3), .inl (cI, 12, .inl (fun _ => 0))), ((u_6 4), .inl (cI, 12, .inl (fun _ => 0))), ((u_6 5), .inl (cI, 12, .inl (fun _ => 0))), ((u_6 6), .inl (cI, 504, .inl (fun _ => 0))), ((u_6 7), .inl (cI, 504, .inl (fun _ => 0))), ((u_6 8), .inl (cI, 504, .inl (fun _ => 0))), ((u_6 9), .inl (cI, 504, .inl (fun _ => 0))), ((u_6 10), .inl (cI, 504, .inl (fun _ => 0))), ((u_6 11), .inl (cI, 504, .inl (fun _ => 0))), (q_7, .inr (1, [.ref q_1, .ref q_3, .ref q_5, .ref (u_8 0), .ref (u_8 13), .ref (u_8 14), .ref (u_8 15), .int 0, .int 0, .int 0, .int 0, .int 0])), ((u_8 0), .inr (2, [.int 0, .int 0, .long 0, .int 0, .int 0, .ref (u_8 1), .ref (u_8 2), .ref (u_8 3), .ref (u_8 4), .ref (u_8 5), .ref (u_8 6), .ref (u_8 7), .ref (u_8 8), .ref (u_8 9), .ref (u_8 10), .ref (u_8 11), .ref (u_8 12)])), ((u_8 1), .inl (cI, 12, .inl (fun _ => 0))), ((u_8 2), .inl (cI, 12, .inl (fun _ => 0))), ((u_8 3), .inl (cI, 12, .inl (fun _ => 0))), ((u_8 4), .inl (cI, 12, .inl (fun _ => 0))), ((u_8 5), .inl (cI, 12, .inl (fun _ => 0))), ((u_8 6), .inl (cI, 12, .inl (fun _ => 0))), ((u_8 7), .inl (cI, 504, .inl (fun _ => 0))), ((u_8 8), .inl (cI, 504, .inl (fun _ => 0))), ((u_8 9), .inl (cI, 504, .inl (fun _ => 0))), ((u_8 10), .inl (cI, 504, .inl (fun _ => 0))), ((u_8 11), .inl (cI, 504, .inl (fun _ => 0))), ((u_8 12), .inl (cI, 504, .inl (fun _ => 0))), ((u_8 13), .inl (cI, 20, .inl (fun _ => 0))), ((u_8 14), .inl (cI, 21, .inl (fun _ => 0))), ((u_8 15), .inl (cI, 1008, .inl (fun _ => 0)))] := hD
  have hP9 := hP.sub (ws' := [(h0, .inr (4, [.ref q_1, .ref q_3, .ref q_5, .ref q_7])), (q_1, .inr (3, [.int 0, .ref (u_2 0), .ref (u_2 1), .ref (u_2 2), .ref (u_2 3), .ref (u_2 4), .ref (u_2 5), .ref (u_2 6), .ref (u_2 7), .ref (u_2 8)])), ((u_2 0), .inl (cZ, 12, .inl (fun _ => 0))), ((u_2 1), .inl (cI, 12, .inl (fun _ => 0))), ((u_2 2), .inl (cI, 12, .inl (fun _ => 0))), ((u_2 3), .inl (cI, 12, .inl (fun _ => 0))), ((u_2 4), .inl (cI, 84, .inl (fun _ => 0))), ((u_2 5), .inl (cI, 84, .inl (fun _ => 0))), ((u_2 6), .inl (cI, 504, .inl (fun _ => 0))), ((u_2 7), .inl (cI, 504, .inl (fun _ => 0))), ((u_2 8), .inl (cI, 504, .inl (fun _ => 0))), (q_3, .inr (0, [.ref q_1, .ref (u_4 0), .ref (u_4 1), .ref (u_4 2), .ref (u_4 3)])), ((u_4 0), .inl (cI, 12, .inl (fun _ => 0))), ((u_4 1), .inl (cI, 72, .inl (fun _ => 0))), ((u_4 2), .inl (cI, 72, .inl (fun _ => 0))), ((u_4 3), .inl (cI, 12, .inl (fun _ => 0))), (q_5, .inr (2, [.int 0, .int 0, .long 0, .int 0, .int 0, .ref (u_6 0), .ref (u_6 1), .ref (u_6 2), .ref (u_6 3), .ref (u_6 4), .ref (u_6 5), .ref (u_6 6), .ref (u_6 7), .ref (u_6 8), .ref (u_6 9), .ref (u_6 10), .ref (u_6 11)])), ((u_6 0), .inl (cI, 12, .inl (fun _ => 0))), ((u_6 1), .inl (cI, 12, .inl (fun _ => 0))), ((u_6 2), .inl (cI, 12, .inl (fun _ => 0))), ((u_6 3), .inl (cI, 12, .inl (fun _ => 0))), ((u_6 4), .inl (cI, 12, .inl (fun _ => 0))), ((u_6 5), .inl (cI, 12, .inl (fun _ => 0))), ((u_6 6), .inl (cI, 504, .inl (fun _ => 0))), ((u_6 7), .inl (cI, 504, .inl (fun _ => 0))), ((u_6 8), .inl (cI, 504, .inl (fun _ => 0))), ((u_6 9), .inl (cI, 504, .inl (fun _ => 0))), ((u_6 10), .inl (cI, 504, .inl (fun _ => 0))), ((u_6 11), .inl (cI, 504, .inl (fun _ => 0))), (q_7, .inr (1, [.ref q_1, .ref q_3, .ref q_5, .ref (u_8 0), .ref (u_8 13), .ref (u_8 14), .ref (u_8 15), .int 0, .int 0, .int 0, .int 0, .int 0])), ((u_8 0), .inr (2, [.int 0, .int 0, .long 0, .int 0, .int 0, .ref (u_8 1), .ref (u_8 2), .ref (u_8 3), .ref (u_8 4), .ref (u_8 5), .ref (u_8 6), .ref (u_8 7), .ref (u_8 8), .ref (u_8 9), .ref (u_8 10), .ref (u_8 11), .ref (u_8 12)])), ((u_8 1), .inl (cI, 12, .inl (fun _ => 0))), ((u_8 2), .inl (cI, 12, .inl (fun _ => 0))), ((u_8 3), .inl (cI, 12, .inl (fun _ => 0))), ((u_8 4), .inl (cI, 12, .inl (fun _ => 0))), ((u_8 5), .inl (cI, 12, .inl (fun _ => 0))), ((u_8 6), .inl (cI, 12, .inl (fun _ => 0))), ((u_8 7), .inl (cI, 504, .inl (fun _ => 0))), ((u_8 8), .inl (cI, 504, .inl (fun _ => 0))), ((u_8 9), .inl (cI, 504, .inl (fun _ => 0))), ((u_8 10), .inl (cI, 504, .inl (fun _ => 0))), ((u_8 11), .inl (cI, 504, .inl (fun _ => 0))), ((u_8 12), .inl (cI, 504, .inl (fun _ => 0))), ((u_8 13), .inl (cI, 20, .inl (fun _ => 0))), ((u_8 14), .inl (cI, 21, .inl (fun _ => 0))), ((u_8 15), .inl (cI, 1008, .inl (fun _ => 0)))]) [0, 1, 2, 3, 4, 5, 6, 7, 8, 9, 10, 11, 12, 13, 14, 15, 16, 17, 18, 19, 20, 21, 22, 23, 24, 25, 26, 27, 28, 29, 30, 31, 32, 33, 34, 35, 36, 37, 38, 39, 40, 41, 42, 43, 44, 45] rfl
  have hD9 := hD.sub (ws' := [(h0, .inr (4, [.ref q_1, .ref q_3, .ref q_5, .ref q_7])), (q_1, .inr (3, [.int 0, .ref (u_2 0), .ref (u_2 1), .ref (u_2 2), .ref (u_2 3), .ref (u_2 4), .ref (u_2 5), .ref (u_2 6), .ref (u_2 7), .ref (u_2 8)])), ((u_2 0), .inl (cZ, 12, .inl (fun _ => 0))), ((u_2 1), .inl (cI, 12, .inl (fun _ => 0))), ((u_2 2), .inl (cI, 12, .inl (fun _ => 0))), ((u_2 3), .inl (cI, 12, .inl (fun _ => 0))), ((u_2 4), .inl (cI, 84, .inl (fun _ => 0))), ((u_2 5), .inl (cI, 84, .inl (fun _ => 0))), ((u_2 6), .inl (cI, 504, .inl (fun _ => 0))), ((u_2 7), .inl (cI, 504, .inl (fun _ => 0))), ((u_2 8), .inl (cI, 504, .inl (fun _ => 0))), (q_3, .inr (0, [.ref q_1, .ref (u_4 0), .ref (u_4 1), .ref (u_4 2), .ref (u_4 3)])), ((u_4 0), .inl (cI, 12, .inl (fun _ => 0))), ((u_4 1), .inl (cI, 72, .inl (fun _ => 0))), ((u_4 2), .inl (cI, 72, .inl (fun _ => 0))), ((u_4 3), .inl (cI, 12, .inl (fun _ => 0))), (q_5, .inr (2, [.int 0, .int 0, .long 0, .int 0, .int 0, .ref (u_6 0), .ref (u_6 1), .ref (u_6 2), .ref (u_6 3), .ref (u_6 4), .ref (u_6 5), .ref (u_6 6), .ref (u_6 7), .ref (u_6 8), .ref (u_6 9), .ref (u_6 10), .ref (u_6 11)])), ((u_6 0), .inl (cI, 12, .inl (fun _ => 0))), ((u_6 1), .inl (cI, 12, .inl (fun _ => 0))), ((u_6 2), .inl (cI, 12, .inl (fun _ => 0))), ((u_6 3), .inl (cI, 12, .inl (fun _ => 0))), ((u_6 4), .inl (cI, 12, .inl (fun _ => 0))), ((u_6 5), .inl (cI, 12, .inl (fun _ => 0))), ((u_6 6), .inl (cI, 504, .inl (fun _ => 0))), ((u_6 7), .inl (cI, 504, .inl (fun _ => 0))), ((u_6 8), .inl (cI, 504, .inl (fun _ => 0))), ((u_6 9), .inl (cI, 504, .inl (fun _ => 0))), ((u_6 10), .inl (cI, 504, .inl (fun _ => 0))), ((u_6 11), .inl (cI, 504, .inl (fun _ => 0))), (q_7, .inr (1, [.ref q_1, .ref q_3, .ref q_5, .ref (u_8 0), .ref (u_8 13), .ref (u_8 14), .ref (u_8 15), .int 0, .int 0, .int 0, .int 0, .int 0])), ((u_8 0), .inr (2, [.int 0, .int 0, .long 0, .int 0, .int 0, .ref (u_8 1), .ref (u_8 2), .ref (u_8 3), .ref (u_8 4), .ref (u_8 5), .ref (u_8 6), .ref (u_8 7), .ref (u_8 8), .ref (u_8 9), .ref (u_8 10), .ref (u_8 11), .ref (u_8 12)])), ((u_8 1), .inl (cI, 12, .inl (fun _ => 0))), ((u_8 2), .inl (cI, 12, .inl (fun _ => 0))), ((u_8 3), .inl (cI, 12, .inl (fun _ => 0))), ((u_8 4), .inl (cI, 12, .inl (fun _ => 0))), ((u_8 5), .inl (cI, 12, .inl (fun _ => 0))), ((u_8 6), .inl (cI, 12, .inl (fun _ => 0))), ((u_8 7), .inl (cI, 504, .inl (fun _ => 0))), ((u_8 8), .inl (cI, 504, .inl (fun _ => 0))), ((u_8 9), .inl (cI, 504, .inl (fun _ => 0))), ((u_8 10), .inl (cI, 504, .inl (fun _ => 0))), ((u_8 11), .inl (cI, 504, .inl (fun _ => 0))), ((u_8 12), .inl (cI, 504, .inl (fun _ => 0))), ((u_8 13), .inl (cI, 20, .inl (fun _ => 0))), ((u_8 14), .inl (cI, 21, .inl (fun _ => 0))), ((u_8 15), .inl (cI, 1008, .inl (fun _ => 0)))]) [0, 1, 2, 3, 4, 5, 6, 7, 8, 9, 10, 11, 12, 13, 14, 15, 16, 17, 18, 19, 20, 21, 22, 23, 24, 25, 26, 27, 28, 29, 30, 31, 32, 33, 34, 35, 36, 37, 38, 39, 40, 41, 42, 43, 44, 45] (by decide) rfl
  exact W.vret hx hb hr (fun tz_ ht hW => ⟨⟨(fun k => ([q_1, (u_2 0), (u_2 1), (u_2 2), (u_2 3), (u_2 4), (u_2 5), (u_2 6), (u_2 7), (u_2 8), q_3, (u_4 0), (u_4 1), (u_4 2), (u_4 3), q_5, (u_6 0), (u_6 1), (u_6 2), (u_6 3), (u_6 4), (u_6 5), (u_6 6), (u_6 7), (u_6 8), (u_6 9), (u_6 10), (u_6 11), q_7, (u_8 0), (u_8 1), (u_8 2), (u_8 3), (u_8 4), (u_8 5), (u_8 6), (u_8 7), (u_8 8), (u_8 9), (u_8 10), (u_8 11), (u_8 12), (u_8 13), (u_8 14), (u_8 15)] : List Nat).getD k 0), rfl, (by first | exact trivial | omega | (simp only [Int32.reduceToInt] at *; omega) | decide), (by rw [ht]; exact hP9), hD9⟩, hS.F ht⟩) hS.2.2 dX4_init_64
end
