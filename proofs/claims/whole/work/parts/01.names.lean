-- ===== PART A: goes FIRST, ahead of the names: the tables' words, and 'selects' of the private methods out of them =====
/-- a private method of a class that the tables say can be made, by its rows of tables_1 -/
def lw_okq (q : MethodName × Nat) : Prop := (q.1.cls ≠ "java/lang/invoke/MethodHandle" ∧ q.1.cls ≠ "java/lang/invoke/VarHandle") ∧ Cond.instantiable q.1.cls q.2 ∈ tables_1 ∧ Cond.privateMethod q.1 ∈ tables_1 ∧ Cond.instanceMethod q.1 ∈ tables_1
theorem lw_p0 : lw_okq (⟨"WallDesk$Walls", "addFirm", "(I)I"⟩, 7) := ⟨⟨by decide +kernel, by decide +kernel⟩, List.mem_of_getElem? (i := 19) (by decide +kernel), List.mem_of_getElem? (i := 152) (by decide +kernel), List.mem_of_getElem? (i := 153) (by decide +kernel)⟩
theorem lw_p1 : lw_okq (⟨"WallDesk$Walls", "hasFirm", "(I)Z"⟩, 7) := ⟨⟨by decide +kernel, by decide +kernel⟩, List.mem_of_getElem? (i := 19) (by decide +kernel), List.mem_of_getElem? (i := 160) (by decide +kernel), List.mem_of_getElem? (i := 161) (by decide +kernel)⟩
theorem lw_p2 : lw_okq (⟨"WallDesk$Walls", "addObject", "(I)I"⟩, 7) := ⟨⟨by decide +kernel, by decide +kernel⟩, List.mem_of_getElem? (i := 19) (by decide +kernel), List.mem_of_getElem? (i := 165) (by decide +kernel), List.mem_of_getElem? (i := 166) (by decide +kernel)⟩
theorem lw_p3 : lw_okq (⟨"WallDesk", "reach", "(III)I"⟩, 9) := ⟨⟨by decide +kernel, by decide +kernel⟩, List.mem_of_getElem? (i := 11) (by decide +kernel), List.mem_of_getElem? (i := 173) (by decide +kernel), List.mem_of_getElem? (i := 174) (by decide +kernel)⟩
theorem lw_p4 : lw_okq (⟨"WallDesk$Walls", "hasObject", "(I)Z"⟩, 7) := ⟨⟨by decide +kernel, by decide +kernel⟩, List.mem_of_getElem? (i := 19) (by decide +kernel), List.mem_of_getElem? (i := 177) (by decide +kernel), List.mem_of_getElem? (i := 178) (by decide +kernel)⟩
theorem lw_p5 : lw_okq (⟨"WallDesk$Walls", "onWriting", "(II)I"⟩, 7) := ⟨⟨by decide +kernel, by decide +kernel⟩, List.mem_of_getElem? (i := 19) (by decide +kernel), List.mem_of_getElem? (i := 181) (by decide +kernel), List.mem_of_getElem? (i := 182) (by decide +kernel)⟩
theorem lw_p6 : lw_okq (⟨"WallDesk$Walls", "letRead", "(II)Z"⟩, 7) := ⟨⟨by decide +kernel, by decide +kernel⟩, List.mem_of_getElem? (i := 19) (by decide +kernel), List.mem_of_getElem? (i := 185) (by decide +kernel), List.mem_of_getElem? (i := 186) (by decide +kernel)⟩
theorem lw_p7 : lw_okq (⟨"WallDesk$Walls", "onReading", "(II)I"⟩, 7) := ⟨⟨by decide +kernel, by decide +kernel⟩, List.mem_of_getElem? (i := 19) (by decide +kernel), List.mem_of_getElem? (i := 192) (by decide +kernel), List.mem_of_getElem? (i := 193) (by decide +kernel)⟩
theorem lw_p8 : lw_okq (⟨"WallDesk$Glasses", "anyRuns", "(III)Z"⟩, 5) := ⟨⟨by decide +kernel, by decide +kernel⟩, List.mem_of_getElem? (i := 53) (by decide +kernel), List.mem_of_getElem? (i := 196) (by decide +kernel), List.mem_of_getElem? (i := 197) (by decide +kernel)⟩
theorem lw_p9 : lw_okq (⟨"WallDesk$Glasses", "runs", "(II)Z"⟩, 5) := ⟨⟨by decide +kernel, by decide +kernel⟩, List.mem_of_getElem? (i := 53) (by decide +kernel), List.mem_of_getElem? (i := 200) (by decide +kernel), List.mem_of_getElem? (i := 201) (by decide +kernel)⟩
theorem lw_p10 : lw_okq (⟨"WallDesk$Log", "isFull", "()Z"⟩, 3) := ⟨⟨by decide +kernel, by decide +kernel⟩, List.mem_of_getElem? (i := 85) (by decide +kernel), List.mem_of_getElem? (i := 204) (by decide +kernel), List.mem_of_getElem? (i := 205) (by decide +kernel)⟩
theorem lw_p11 : lw_okq (⟨"WallDesk$Walls", "showFirm", "(II)V"⟩, 7) := ⟨⟨by decide +kernel, by decide +kernel⟩, List.mem_of_getElem? (i := 19) (by decide +kernel), List.mem_of_getElem? (i := 208) (by decide +kernel), List.mem_of_getElem? (i := 209) (by decide +kernel)⟩
theorem lw_p12 : lw_okq (⟨"WallDesk$Walls", "teachFirm", "(II)V"⟩, 7) := ⟨⟨by decide +kernel, by decide +kernel⟩, List.mem_of_getElem? (i := 19) (by decide +kernel), List.mem_of_getElem? (i := 212) (by decide +kernel), List.mem_of_getElem? (i := 213) (by decide +kernel)⟩
theorem lw_p13 : lw_okq (⟨"WallDesk$Log", "add", "(IIIII)V"⟩, 3) := ⟨⟨by decide +kernel, by decide +kernel⟩, List.mem_of_getElem? (i := 85) (by decide +kernel), List.mem_of_getElem? (i := 219) (by decide +kernel), List.mem_of_getElem? (i := 220) (by decide +kernel)⟩
theorem lw_p14 : lw_okq (⟨"WallDesk$Log", "linkDue", "(I)J"⟩, 3) := ⟨⟨by decide +kernel, by decide +kernel⟩, List.mem_of_getElem? (i := 85) (by decide +kernel), List.mem_of_getElem? (i := 223) (by decide +kernel), List.mem_of_getElem? (i := 224) (by decide +kernel)⟩
theorem lw_p15 : lw_okq (⟨"WallDesk$Glasses", "openDuties", "(I)I"⟩, 5) := ⟨⟨by decide +kernel, by decide +kernel⟩, List.mem_of_getElem? (i := 53) (by decide +kernel), List.mem_of_getElem? (i := 239) (by decide +kernel), List.mem_of_getElem? (i := 240) (by decide +kernel)⟩
def lw_privs_1 : List (MethodName × Nat) := [(⟨"WallDesk$Walls", "addFirm", "(I)I"⟩, 7), (⟨"WallDesk$Walls", "hasFirm", "(I)Z"⟩, 7), (⟨"WallDesk$Walls", "addObject", "(I)I"⟩, 7), (⟨"WallDesk", "reach", "(III)I"⟩, 9), (⟨"WallDesk$Walls", "hasObject", "(I)Z"⟩, 7), (⟨"WallDesk$Walls", "onWriting", "(II)I"⟩, 7), (⟨"WallDesk$Walls", "letRead", "(II)Z"⟩, 7), (⟨"WallDesk$Walls", "onReading", "(II)I"⟩, 7), (⟨"WallDesk$Glasses", "anyRuns", "(III)Z"⟩, 5), (⟨"WallDesk$Glasses", "runs", "(II)Z"⟩, 5), (⟨"WallDesk$Log", "isFull", "()Z"⟩, 3), (⟨"WallDesk$Walls", "showFirm", "(II)V"⟩, 7), (⟨"WallDesk$Walls", "teachFirm", "(II)V"⟩, 7), (⟨"WallDesk$Log", "add", "(IIIII)V"⟩, 3), (⟨"WallDesk$Log", "linkDue", "(I)J"⟩, 3), (⟨"WallDesk$Glasses", "openDuties", "(I)I"⟩, 5)]
theorem lw_r1 : ∀ q ∈ lw_privs_1, lw_okq q := List.forall_mem_cons.mpr ⟨lw_p0, List.forall_mem_cons.mpr ⟨lw_p1, List.forall_mem_cons.mpr ⟨lw_p2, List.forall_mem_cons.mpr ⟨lw_p3, List.forall_mem_cons.mpr ⟨lw_p4, List.forall_mem_cons.mpr ⟨lw_p5, List.forall_mem_cons.mpr ⟨lw_p6, List.forall_mem_cons.mpr ⟨lw_p7, List.forall_mem_cons.mpr ⟨lw_p8, List.forall_mem_cons.mpr ⟨lw_p9, List.forall_mem_cons.mpr ⟨lw_p10, List.forall_mem_cons.mpr ⟨lw_p11, List.forall_mem_cons.mpr ⟨lw_p12, List.forall_mem_cons.mpr ⟨lw_p13, List.forall_mem_cons.mpr ⟨lw_p14, List.forall_mem_cons.mpr ⟨lw_p15, fun _ h => absurd h List.not_mem_nil⟩⟩⟩⟩⟩⟩⟩⟩⟩⟩⟩⟩⟩⟩⟩⟩
theorem lw_p16 : lw_okq (⟨"WallDesk$Glasses", "anyDue", "(II)Z"⟩, 5) := ⟨⟨by decide +kernel, by decide +kernel⟩, List.mem_of_getElem? (i := 53) (by decide +kernel), List.mem_of_getElem? (i := 243) (by decide +kernel), List.mem_of_getElem? (i := 244) (by decide +kernel)⟩
theorem lw_p17 : lw_okq (⟨"WallDesk$Glasses", "due", "(I)I"⟩, 5) := ⟨⟨by decide +kernel, by decide +kernel⟩, List.mem_of_getElem? (i := 53) (by decide +kernel), List.mem_of_getElem? (i := 247) (by decide +kernel), List.mem_of_getElem? (i := 248) (by decide +kernel)⟩
theorem lw_p18 : lw_okq (⟨"WallDesk$Glasses", "isFull", "()Z"⟩, 5) := ⟨⟨by decide +kernel, by decide +kernel⟩, List.mem_of_getElem? (i := 53) (by decide +kernel), List.mem_of_getElem? (i := 251) (by decide +kernel), List.mem_of_getElem? (i := 252) (by decide +kernel)⟩
theorem lw_p19 : lw_okq (⟨"WallDesk$Glasses", "addGlass", "(III)I"⟩, 5) := ⟨⟨by decide +kernel, by decide +kernel⟩, List.mem_of_getElem? (i := 53) (by decide +kernel), List.mem_of_getElem? (i := 255) (by decide +kernel), List.mem_of_getElem? (i := 256) (by decide +kernel)⟩
theorem lw_p20 : lw_okq (⟨"WallDesk$Glasses", "has", "(I)Z"⟩, 5) := ⟨⟨by decide +kernel, by decide +kernel⟩, List.mem_of_getElem? (i := 53) (by decide +kernel), List.mem_of_getElem? (i := 263) (by decide +kernel), List.mem_of_getElem? (i := 264) (by decide +kernel)⟩
theorem lw_p21 : lw_okq (⟨"WallDesk", "alterableKind", "(I)LWallDesk$Kind;"⟩, 9) := ⟨⟨by decide +kernel, by decide +kernel⟩, List.mem_of_getElem? (i := 11) (by decide +kernel), List.mem_of_getElem? (i := 318) (by decide +kernel), List.mem_of_getElem? (i := 319) (by decide +kernel)⟩
theorem lw_p22 : lw_okq (⟨"WallDesk", "kindAt", "(I)LWallDesk$Kind;"⟩, 9) := ⟨⟨by decide +kernel, by decide +kernel⟩, List.mem_of_getElem? (i := 11) (by decide +kernel), List.mem_of_getElem? (i := 322) (by decide +kernel), List.mem_of_getElem? (i := 323) (by decide +kernel)⟩
theorem lw_p23 : lw_okq (⟨"WallDesk$Kind", "taskBits", "()I"⟩, 7) := ⟨⟨by decide +kernel, by decide +kernel⟩, List.mem_of_getElem? (i := 276) (by decide +kernel), List.mem_of_getElem? (i := 326) (by decide +kernel), List.mem_of_getElem? (i := 327) (by decide +kernel)⟩
theorem lw_p24 : lw_okq (⟨"WallDesk$Kind", "addTask", "(II)I"⟩, 7) := ⟨⟨by decide +kernel, by decide +kernel⟩, List.mem_of_getElem? (i := 276) (by decide +kernel), List.mem_of_getElem? (i := 330) (by decide +kernel), List.mem_of_getElem? (i := 331) (by decide +kernel)⟩
theorem lw_p25 : lw_okq (⟨"WallDesk$Kind", "arePair", "(II)Z"⟩, 7) := ⟨⟨by decide +kernel, by decide +kernel⟩, List.mem_of_getElem? (i := 276) (by decide +kernel), List.mem_of_getElem? (i := 338) (by decide +kernel), List.mem_of_getElem? (i := 339) (by decide +kernel)⟩
theorem lw_p26 : lw_okq (⟨"WallDesk$Kind", "hasTask", "(I)Z"⟩, 7) := ⟨⟨by decide +kernel, by decide +kernel⟩, List.mem_of_getElem? (i := 276) (by decide +kernel), List.mem_of_getElem? (i := 342) (by decide +kernel), List.mem_of_getElem? (i := 343) (by decide +kernel)⟩
theorem lw_p27 : lw_okq (⟨"WallDesk", "caseAt", "(I)LWallDesk$Case;"⟩, 9) := ⟨⟨by decide +kernel, by decide +kernel⟩, List.mem_of_getElem? (i := 11) (by decide +kernel), List.mem_of_getElem? (i := 380) (by decide +kernel), List.mem_of_getElem? (i := 381) (by decide +kernel)⟩
theorem lw_p28 : lw_okq (⟨"WallDesk$Case", "verdict", "(II[I)I"⟩, 2) := ⟨⟨by decide +kernel, by decide +kernel⟩, List.mem_of_getElem? (i := 361) (by decide +kernel), List.mem_of_getElem? (i := 385) (by decide +kernel), List.mem_of_getElem? (i := 386) (by decide +kernel)⟩
theorem lw_p29 : lw_okq (⟨"WallDesk$Case", "leftBits", "()I"⟩, 2) := ⟨⟨by decide +kernel, by decide +kernel⟩, List.mem_of_getElem? (i := 361) (by decide +kernel), List.mem_of_getElem? (i := 390) (by decide +kernel), List.mem_of_getElem? (i := 391) (by decide +kernel)⟩
theorem lw_p30 : lw_okq (⟨"WallDesk$Case", "bitsDoneBy", "(I)I"⟩, 2) := ⟨⟨by decide +kernel, by decide +kernel⟩, List.mem_of_getElem? (i := 361) (by decide +kernel), List.mem_of_getElem? (i := 394) (by decide +kernel), List.mem_of_getElem? (i := 395) (by decide +kernel)⟩
theorem lw_p31 : lw_okq (⟨"WallDesk$Case", "wouldStick", "(II[I)Z"⟩, 2) := ⟨⟨by decide +kernel, by decide +kernel⟩, List.mem_of_getElem? (i := 361) (by decide +kernel), List.mem_of_getElem? (i := 405) (by decide +kernel), List.mem_of_getElem? (i := 406) (by decide +kernel)⟩
def lw_privs_2 : List (MethodName × Nat) := [(⟨"WallDesk$Glasses", "anyDue", "(II)Z"⟩, 5), (⟨"WallDesk$Glasses", "due", "(I)I"⟩, 5), (⟨"WallDesk$Glasses", "isFull", "()Z"⟩, 5), (⟨"WallDesk$Glasses", "addGlass", "(III)I"⟩, 5), (⟨"WallDesk$Glasses", "has", "(I)Z"⟩, 5), (⟨"WallDesk", "alterableKind", "(I)LWallDesk$Kind;"⟩, 9), (⟨"WallDesk", "kindAt", "(I)LWallDesk$Kind;"⟩, 9), (⟨"WallDesk$Kind", "taskBits", "()I"⟩, 7), (⟨"WallDesk$Kind", "addTask", "(II)I"⟩, 7), (⟨"WallDesk$Kind", "arePair", "(II)Z"⟩, 7), (⟨"WallDesk$Kind", "hasTask", "(I)Z"⟩, 7), (⟨"WallDesk", "caseAt", "(I)LWallDesk$Case;"⟩, 9), (⟨"WallDesk$Case", "verdict", "(II[I)I"⟩, 2), (⟨"WallDesk$Case", "leftBits", "()I"⟩, 2), (⟨"WallDesk$Case", "bitsDoneBy", "(I)I"⟩, 2), (⟨"WallDesk$Case", "wouldStick", "(II[I)Z"⟩, 2)]
theorem lw_r2 : ∀ q ∈ lw_privs_2, lw_okq q := List.forall_mem_cons.mpr ⟨lw_p16, List.forall_mem_cons.mpr ⟨lw_p17, List.forall_mem_cons.mpr ⟨lw_p18, List.forall_mem_cons.mpr ⟨lw_p19, List.forall_mem_cons.mpr ⟨lw_p20, List.forall_mem_cons.mpr ⟨lw_p21, List.forall_mem_cons.mpr ⟨lw_p22, List.forall_mem_cons.mpr ⟨lw_p23, List.forall_mem_cons.mpr ⟨lw_p24, List.forall_mem_cons.mpr ⟨lw_p25, List.forall_mem_cons.mpr ⟨lw_p26, List.forall_mem_cons.mpr ⟨lw_p27, List.forall_mem_cons.mpr ⟨lw_p28, List.forall_mem_cons.mpr ⟨lw_p29, List.forall_mem_cons.mpr ⟨lw_p30, List.forall_mem_cons.mpr ⟨lw_p31, fun _ h => absurd h List.not_mem_nil⟩⟩⟩⟩⟩⟩⟩⟩⟩⟩⟩⟩⟩⟩⟩⟩
theorem lw_p32 : lw_okq (⟨"WallDesk$Case", "couldEnd", "([I)Z"⟩, 2) := ⟨⟨by decide +kernel, by decide +kernel⟩, List.mem_of_getElem? (i := 361) (by decide +kernel), List.mem_of_getElem? (i := 409) (by decide +kernel), List.mem_of_getElem? (i := 410) (by decide +kernel)⟩
theorem lw_p33 : lw_okq (⟨"WallDesk$Kind", "tasksWithin", "(I)I"⟩, 7) := ⟨⟨by decide +kernel, by decide +kernel⟩, List.mem_of_getElem? (i := 276) (by decide +kernel), List.mem_of_getElem? (i := 413) (by decide +kernel), List.mem_of_getElem? (i := 414) (by decide +kernel)⟩
theorem lw_p34 : lw_okq (⟨"WallDesk$Case", "sharedWith", "(JII)J"⟩, 2) := ⟨⟨by decide +kernel, by decide +kernel⟩, List.mem_of_getElem? (i := 361) (by decide +kernel), List.mem_of_getElem? (i := 418) (by decide +kernel), List.mem_of_getElem? (i := 419) (by decide +kernel)⟩
theorem lw_p35 : lw_okq (⟨"WallDesk$Kind", "allows", "(I)Z"⟩, 7) := ⟨⟨by decide +kernel, by decide +kernel⟩, List.mem_of_getElem? (i := 276) (by decide +kernel), List.mem_of_getElem? (i := 422) (by decide +kernel), List.mem_of_getElem? (i := 423) (by decide +kernel)⟩
theorem lw_p36 : lw_okq (⟨"WallDesk$Log", "hasCell", "(II)Z"⟩, 3) := ⟨⟨by decide +kernel, by decide +kernel⟩, List.mem_of_getElem? (i := 85) (by decide +kernel), List.mem_of_getElem? (i := 457) (by decide +kernel), List.mem_of_getElem? (i := 458) (by decide +kernel)⟩
theorem lw_p37 : lw_okq (⟨"WallDesk$Log", "hasEntry", "(I)Z"⟩, 3) := ⟨⟨by decide +kernel, by decide +kernel⟩, List.mem_of_getElem? (i := 85) (by decide +kernel), List.mem_of_getElem? (i := 461) (by decide +kernel), List.mem_of_getElem? (i := 462) (by decide +kernel)⟩
theorem lw_p38 : lw_okq (⟨"WallDesk$Log", "firstWrong", "()I"⟩, 3) := ⟨⟨by decide +kernel, by decide +kernel⟩, List.mem_of_getElem? (i := 85) (by decide +kernel), List.mem_of_getElem? (i := 479) (by decide +kernel), List.mem_of_getElem? (i := 480) (by decide +kernel)⟩
theorem lw_p39 : lw_okq (⟨"WallDeskModel", "access", "(III)I"⟩, 27) := ⟨⟨by decide +kernel, by decide +kernel⟩, List.mem_of_getElem? (i := 487) (by decide +kernel), List.mem_of_getElem? (i := 602) (by decide +kernel), List.mem_of_getElem? (i := 603) (by decide +kernel)⟩
theorem lw_p40 : lw_okq (⟨"WallDeskModel", "isWalled", "(II)Z"⟩, 27) := ⟨⟨by decide +kernel, by decide +kernel⟩, List.mem_of_getElem? (i := 487) (by decide +kernel), List.mem_of_getElem? (i := 606) (by decide +kernel), List.mem_of_getElem? (i := 607) (by decide +kernel)⟩
theorem lw_p41 : lw_okq (⟨"WallDeskModel", "isOpen", "(I)Z"⟩, 27) := ⟨⟨by decide +kernel, by decide +kernel⟩, List.mem_of_getElem? (i := 487) (by decide +kernel), List.mem_of_getElem? (i := 610) (by decide +kernel), List.mem_of_getElem? (i := 611) (by decide +kernel)⟩
theorem lw_p42 : lw_okq (⟨"WallDeskModel", "hasGlass", "(II)Z"⟩, 27) := ⟨⟨by decide +kernel, by decide +kernel⟩, List.mem_of_getElem? (i := 487) (by decide +kernel), List.mem_of_getElem? (i := 614) (by decide +kernel), List.mem_of_getElem? (i := 615) (by decide +kernel)⟩
theorem lw_p43 : lw_okq (⟨"WallDeskModel", "enter", "(IIII)V"⟩, 27) := ⟨⟨by decide +kernel, by decide +kernel⟩, List.mem_of_getElem? (i := 487) (by decide +kernel), List.mem_of_getElem? (i := 618) (by decide +kernel), List.mem_of_getElem? (i := 619) (by decide +kernel)⟩
theorem lw_p44 : lw_okq (⟨"WallDeskModel", "linkAt", "(I)J"⟩, 27) := ⟨⟨by decide +kernel, by decide +kernel⟩, List.mem_of_getElem? (i := 487) (by decide +kernel), List.mem_of_getElem? (i := 622) (by decide +kernel), List.mem_of_getElem? (i := 623) (by decide +kernel)⟩
theorem lw_p45 : lw_okq (⟨"WallDeskModel", "duties", "(I)I"⟩, 27) := ⟨⟨by decide +kernel, by decide +kernel⟩, List.mem_of_getElem? (i := 487) (by decide +kernel), List.mem_of_getElem? (i := 640) (by decide +kernel), List.mem_of_getElem? (i := 641) (by decide +kernel)⟩
theorem lw_p46 : lw_okq (⟨"WallDeskModel", "isLate", "(I)Z"⟩, 27) := ⟨⟨by decide +kernel, by decide +kernel⟩, List.mem_of_getElem? (i := 487) (by decide +kernel), List.mem_of_getElem? (i := 644) (by decide +kernel), List.mem_of_getElem? (i := 645) (by decide +kernel)⟩
theorem lw_p47 : lw_okq (⟨"WallDeskModel", "isFree", "(I)Z"⟩, 27) := ⟨⟨by decide +kernel, by decide +kernel⟩, List.mem_of_getElem? (i := 487) (by decide +kernel), List.mem_of_getElem? (i := 661) (by decide +kernel), List.mem_of_getElem? (i := 662) (by decide +kernel)⟩
def lw_privs_3 : List (MethodName × Nat) := [(⟨"WallDesk$Case", "couldEnd", "([I)Z"⟩, 2), (⟨"WallDesk$Kind", "tasksWithin", "(I)I"⟩, 7), (⟨"WallDesk$Case", "sharedWith", "(JII)J"⟩, 2), (⟨"WallDesk$Kind", "allows", "(I)Z"⟩, 7), (⟨"WallDesk$Log", "hasCell", "(II)Z"⟩, 3), (⟨"WallDesk$Log", "hasEntry", "(I)Z"⟩, 3), (⟨"WallDesk$Log", "firstWrong", "()I"⟩, 3), (⟨"WallDeskModel", "access", "(III)I"⟩, 27), (⟨"WallDeskModel", "isWalled", "(II)Z"⟩, 27), (⟨"WallDeskModel", "isOpen", "(I)Z"⟩, 27), (⟨"WallDeskModel", "hasGlass", "(II)Z"⟩, 27), (⟨"WallDeskModel", "enter", "(IIII)V"⟩, 27), (⟨"WallDeskModel", "linkAt", "(I)J"⟩, 27), (⟨"WallDeskModel", "duties", "(I)I"⟩, 27), (⟨"WallDeskModel", "isLate", "(I)Z"⟩, 27), (⟨"WallDeskModel", "isFree", "(I)Z"⟩, 27)]
theorem lw_r3 : ∀ q ∈ lw_privs_3, lw_okq q := List.forall_mem_cons.mpr ⟨lw_p32, List.forall_mem_cons.mpr ⟨lw_p33, List.forall_mem_cons.mpr ⟨lw_p34, List.forall_mem_cons.mpr ⟨lw_p35, List.forall_mem_cons.mpr ⟨lw_p36, List.forall_mem_cons.mpr ⟨lw_p37, List.forall_mem_cons.mpr ⟨lw_p38, List.forall_mem_cons.mpr ⟨lw_p39, List.forall_mem_cons.mpr ⟨lw_p40, List.forall_mem_cons.mpr ⟨lw_p41, List.forall_mem_cons.mpr ⟨lw_p42, List.forall_mem_cons.mpr ⟨lw_p43, List.forall_mem_cons.mpr ⟨lw_p44, List.forall_mem_cons.mpr ⟨lw_p45, List.forall_mem_cons.mpr ⟨lw_p46, List.forall_mem_cons.mpr ⟨lw_p47, fun _ h => absurd h List.not_mem_nil⟩⟩⟩⟩⟩⟩⟩⟩⟩⟩⟩⟩⟩⟩⟩⟩
theorem lw_p48 : lw_okq (⟨"WallDeskModel", "arePair", "(III)Z"⟩, 27) := ⟨⟨by decide +kernel, by decide +kernel⟩, List.mem_of_getElem? (i := 487) (by decide +kernel), List.mem_of_getElem? (i := 669) (by decide +kernel), List.mem_of_getElem? (i := 670) (by decide +kernel)⟩
theorem lw_p49 : lw_okq (⟨"WallDeskModel", "canBe", "(I)Z"⟩, 27) := ⟨⟨by decide +kernel, by decide +kernel⟩, List.mem_of_getElem? (i := 487) (by decide +kernel), List.mem_of_getElem? (i := 695) (by decide +kernel), List.mem_of_getElem? (i := 696) (by decide +kernel)⟩
theorem lw_p50 : lw_okq (⟨"WallDeskModel", "isFit", "(II)Z"⟩, 27) := ⟨⟨by decide +kernel, by decide +kernel⟩, List.mem_of_getElem? (i := 487) (by decide +kernel), List.mem_of_getElem? (i := 699) (by decide +kernel), List.mem_of_getElem? (i := 700) (by decide +kernel)⟩
theorem lw_p51 : lw_okq (⟨"WallDeskModel", "isTask", "(II)Z"⟩, 27) := ⟨⟨by decide +kernel, by decide +kernel⟩, List.mem_of_getElem? (i := 487) (by decide +kernel), List.mem_of_getElem? (i := 707) (by decide +kernel), List.mem_of_getElem? (i := 708) (by decide +kernel)⟩
def lw_privs_4 : List (MethodName × Nat) := [(⟨"WallDeskModel", "arePair", "(III)Z"⟩, 27), (⟨"WallDeskModel", "canBe", "(I)Z"⟩, 27), (⟨"WallDeskModel", "isFit", "(II)Z"⟩, 27), (⟨"WallDeskModel", "isTask", "(II)Z"⟩, 27)]
theorem lw_r4 : ∀ q ∈ lw_privs_4, lw_okq q := List.forall_mem_cons.mpr ⟨lw_p48, List.forall_mem_cons.mpr ⟨lw_p49, List.forall_mem_cons.mpr ⟨lw_p50, List.forall_mem_cons.mpr ⟨lw_p51, fun _ h => absurd h List.not_mem_nil⟩⟩⟩⟩
def lw_privs : List (MethodName × Nat) := lw_privs_1 ++ (lw_privs_2 ++ (lw_privs_3 ++ (lw_privs_4)))
def lw_tbl : List Cond := k2_sels lw_privs ++ tables_1
theorem lw_privs_ok : ∀ q ∈ lw_privs, lw_okq q := by
  show ∀ q ∈ lw_privs_1 ++ (lw_privs_2 ++ (lw_privs_3 ++ (lw_privs_4))), lw_okq q
  exact List.forall_mem_append.mpr ⟨lw_r1, List.forall_mem_append.mpr ⟨lw_r2, List.forall_mem_append.mpr ⟨lw_r3, lw_r4⟩⟩⟩
/-! ===== BEGIN words of one list among another's, by their places ===== -/
theorem goodIn_r {big : List Cond} (ws : List Cond) (ps : List Nat) (hp : ws = ps.filterMap (fun i => big[i]?)) (h : ws.all goodWord = true) : GoodIn big ws := by
  intro w hw
  have h1 := List.all_eq_true.mp h w hw
  rw [hp] at hw
  obtain ⟨i, -, hi⟩ := List.mem_filterMap.mp hw
  have hm : w ∈ big := by first | exact List.mem_of_getElem? hi | exact List.getElem?_mem hi
  exact ⟨hm, good_of_word h1⟩
theorem goodIn_app {big a b : List Cond} (ha : GoodIn big a) (hb : GoodIn big b) : GoodIn big (a ++ b) := fun w h => (List.mem_append.mp h).elim (ha w) (hb w)
theorem goodIn_ca {big a b : List Cond} {c : Cond} (ha : GoodIn big (c :: a)) (hb : GoodIn big b) : GoodIn big (c :: (a ++ b)) := fun w h => (List.mem_cons.mp h).elim (fun e => ha w (List.mem_cons.mpr (Or.inl e))) (fun h => (List.mem_append.mp h).elim (fun h => ha w (List.mem_cons.mpr (Or.inr h))) (hb w))
theorem goodIn_sub {big ws : List Cond} (hm : ∀ w ∈ ws, w ∈ big) (h : ws.all goodWord = true) : GoodIn big ws := fun w hw => ⟨hm w hw, good_of_word (List.all_eq_true.mp h w hw)⟩
/-! ===== END ===== -/

/-! ===== BEGIN printed: names, fields, word lists, decode rows ===== -/
def RX0 : String := "WallDesk$Case"
def TX0 : u_T := fun k => match k with
  | 0 => ("WallDesk$Case", "kind", "LWallDesk$Kind;", true)
  | _ => ("WallDesk$Case", "doerOf", "[I", true)
def tyX0 : Nat → FieldType := fun k => match k with
  | 0 => .object "WallDesk$Kind"
  | _ => .array .int
abbrev wsX00 : List Cond := u_ws RX0 TX0 2
theorem nmX0 : ∀ a, a < 2 → ∀ b, b < 2 → a ≠ b → (TX0 a).2.1 ≠ (TX0 b).2.1 := by decide +kernel
theorem tyX0_ok : ∀ k, k < 2 → parseFieldDescriptor (TX0 k).2.2.1 = some (tyX0 k) := by decide +kernel
abbrev cX0_init : ByteArray := prog_2_method_1_code
def yX0_init : MethodName := ⟨RX0, "<init>", "(LWallDesk$Kind;)V"⟩
abbrev cX0_bitsDoneBy : ByteArray := prog_2_method_2_code
def yX0_bitsDoneBy : MethodName := ⟨RX0, "bitsDoneBy", "(I)I"⟩
abbrev cX0_leftBits : ByteArray := prog_2_method_3_code
def yX0_leftBits : MethodName := ⟨RX0, "leftBits", "()I"⟩
abbrev cX0_verdict : ByteArray := prog_2_method_4_code
def yX0_verdict : MethodName := ⟨RX0, "verdict", "(II[I)I"⟩
abbrev cX0_wouldStick : ByteArray := prog_2_method_5_code
def yX0_wouldStick : MethodName := ⟨RX0, "wouldStick", "(II[I)Z"⟩
abbrev cX0_couldEnd : ByteArray := prog_2_method_6_code
def yX0_couldEnd : MethodName := ⟨RX0, "couldEnd", "([I)Z"⟩
abbrev cX0_sharedWith : ByteArray := prog_2_method_7_code
def yX0_sharedWith : MethodName := ⟨RX0, "sharedWith", "(JII)J"⟩
abbrev cX0_setsWithoutAnyOf : ByteArray := prog_2_method_8_code
def yX0_setsWithoutAnyOf : MethodName := ⟨RX0, "setsWithoutAnyOf", "(I)J"⟩
def RX1 : String := "WallDesk$Glasses"
def TX1 : u_T := fun k => match k with
  | 0 => ("WallDesk$Glasses", "user", "[I", true)
  | 1 => ("WallDesk$Glasses", "firm", "[I", true)
  | 2 => ("WallDesk$Glasses", "end", "[I", true)
  | 3 => ("WallDesk$Glasses", "dutyOpen", "[Z", true)
  | _ => ("WallDesk$Glasses", "size", "I", false)
def tyX1 : Nat → FieldType := fun k => match k with
  | 0 => .array .int
  | 1 => .array .int
  | 2 => .array .int
  | 3 => .array .boolean
  | _ => .int
abbrev wsX10 : List Cond := u_ws RX1 TX1 5
theorem nmX1 : ∀ a, a < 5 → ∀ b, b < 5 → a ≠ b → (TX1 a).2.1 ≠ (TX1 b).2.1 := by decide +kernel
theorem tyX1_ok : ∀ k, k < 5 → parseFieldDescriptor (TX1 k).2.2.1 = some (tyX1 k) := by decide +kernel
abbrev cX1_init : ByteArray := prog_3_method_1_code
def yX1_init : MethodName := ⟨RX1, "<init>", "()V"⟩
abbrev cX1_has : ByteArray := prog_3_method_2_code
def yX1_has : MethodName := ⟨RX1, "has", "(I)Z"⟩
abbrev cX1_isFull : ByteArray := prog_3_method_3_code
def yX1_isFull : MethodName := ⟨RX1, "isFull", "()Z"⟩
abbrev cX1_addGlass : ByteArray := prog_3_method_4_code
def yX1_addGlass : MethodName := ⟨RX1, "addGlass", "(III)I"⟩
abbrev cX1_runs : ByteArray := prog_3_method_5_code
def yX1_runs : MethodName := ⟨RX1, "runs", "(II)Z"⟩
abbrev cX1_due : ByteArray := prog_3_method_6_code
def yX1_due : MethodName := ⟨RX1, "due", "(I)I"⟩
abbrev cX1_anyRuns : ByteArray := prog_3_method_7_code
def yX1_anyRuns : MethodName := ⟨RX1, "anyRuns", "(III)Z"⟩
abbrev cX1_openDuties : ByteArray := prog_3_method_8_code
def yX1_openDuties : MethodName := ⟨RX1, "openDuties", "(I)I"⟩
abbrev cX1_anyDue : ByteArray := prog_3_method_9_code
def yX1_anyDue : MethodName := ⟨RX1, "anyDue", "(II)Z"⟩
def RX2 : String := "WallDesk$Kind"
def TX2 : u_T := fun k => match k with
  | 0 => ("WallDesk$Kind", "roleOf", "[I", true)
  | 1 => ("WallDesk$Kind", "mustPrecede", "[I", true)
  | 2 => ("WallDesk$Kind", "apartFrom", "[I", true)
  | 3 => ("WallDesk$Kind", "boundTo", "[I", true)
  | 4 => ("WallDesk$Kind", "tasks", "I", false)
  | 5 => ("WallDesk$Kind", "most", "I", false)
  | _ => ("WallDesk$Kind", "hasCases", "Z", false)
def tyX2 : Nat → FieldType := fun k => match k with
  | 0 => .array .int
  | 1 => .array .int
  | 2 => .array .int
  | 3 => .array .int
  | 4 => .int
  | 5 => .int
  | _ => .boolean
abbrev wsX20 : List Cond := u_ws RX2 TX2 7
theorem nmX2 : ∀ a, a < 7 → ∀ b, b < 7 → a ≠ b → (TX2 a).2.1 ≠ (TX2 b).2.1 := by decide +kernel
theorem tyX2_ok : ∀ k, k < 7 → parseFieldDescriptor (TX2 k).2.2.1 = some (tyX2 k) := by decide +kernel
abbrev cX2_init : ByteArray := prog_4_method_1_code
def yX2_init : MethodName := ⟨RX2, "<init>", "()V"⟩
abbrev cX2_hasTask : ByteArray := prog_4_method_2_code
def yX2_hasTask : MethodName := ⟨RX2, "hasTask", "(I)Z"⟩
abbrev cX2_arePair : ByteArray := prog_4_method_3_code
def yX2_arePair : MethodName := ⟨RX2, "arePair", "(II)Z"⟩
abbrev cX2_taskBits : ByteArray := prog_4_method_4_code
def yX2_taskBits : MethodName := ⟨RX2, "taskBits", "()I"⟩
abbrev cX2_addTask : ByteArray := prog_4_method_5_code
def yX2_addTask : MethodName := ⟨RX2, "addTask", "(II)I"⟩
abbrev cX2_tasksWithin : ByteArray := prog_4_method_6_code
def yX2_tasksWithin : MethodName := ⟨RX2, "tasksWithin", "(I)I"⟩
abbrev cX2_allows : ByteArray := prog_4_method_7_code
def yX2_allows : MethodName := ⟨RX2, "allows", "(I)Z"⟩
def RX3 : String := "WallDesk$Log"
def TX3 : u_T := fun k => match k with
  | 0 => ("WallDesk$Log", "cells", "[I", true)
  | 1 => ("WallDesk$Log", "links", "[J", true)
  | _ => ("WallDesk$Log", "size", "I", false)
def tyX3 : Nat → FieldType := fun k => match k with
  | 0 => .array .int
  | 1 => .array .long
  | _ => .int
abbrev wsX30 : List Cond := u_ws RX3 TX3 3
theorem nmX3 : ∀ a, a < 3 → ∀ b, b < 3 → a ≠ b → (TX3 a).2.1 ≠ (TX3 b).2.1 := by decide +kernel
theorem tyX3_ok : ∀ k, k < 3 → parseFieldDescriptor (TX3 k).2.2.1 = some (tyX3 k) := by decide +kernel
abbrev cX3_init : ByteArray := prog_5_method_1_code
def yX3_init : MethodName := ⟨RX3, "<init>", "()V"⟩
abbrev cX3_isFull : ByteArray := prog_5_method_2_code
def yX3_isFull : MethodName := ⟨RX3, "isFull", "()Z"⟩
abbrev cX3_hasEntry : ByteArray := prog_5_method_3_code
def yX3_hasEntry : MethodName := ⟨RX3, "hasEntry", "(I)Z"⟩
abbrev cX3_hasCell : ByteArray := prog_5_method_4_code
def yX3_hasCell : MethodName := ⟨RX3, "hasCell", "(II)Z"⟩
abbrev cX3_add : ByteArray := prog_5_method_5_code
def yX3_add : MethodName := ⟨RX3, "add", "(IIIII)V"⟩
abbrev cX3_linkDue : ByteArray := prog_5_method_6_code
def yX3_linkDue : MethodName := ⟨RX3, "linkDue", "(I)J"⟩
abbrev cX3_firstWrong : ByteArray := prog_5_method_7_code
def yX3_firstWrong : MethodName := ⟨RX3, "firstWrong", "()I"⟩
def RX4 : String := "WallDesk$Walls"
def TX4 : u_T := fun k => match k with
  | 0 => ("WallDesk$Walls", "classOf", "[I", true)
  | 1 => ("WallDesk$Walls", "firmsOf", "[I", true)
  | 2 => ("WallDesk$Walls", "firmOf", "[I", true)
  | 3 => ("WallDesk$Walls", "known", "[I", true)
  | 4 => ("WallDesk$Walls", "seen", "[I", true)
  | 5 => ("WallDesk$Walls", "firms", "I", false)
  | _ => ("WallDesk$Walls", "objects", "I", false)
def tyX4 : Nat → FieldType := fun k => match k with
  | 0 => .array .int
  | 1 => .array .int
  | 2 => .array .int
  | 3 => .array .int
  | 4 => .array .int
  | 5 => .int
  | _ => .int
abbrev wsX40 : List Cond := u_ws RX4 TX4 7
theorem nmX4 : ∀ a, a < 7 → ∀ b, b < 7 → a ≠ b → (TX4 a).2.1 ≠ (TX4 b).2.1 := by decide +kernel
theorem tyX4_ok : ∀ k, k < 7 → parseFieldDescriptor (TX4 k).2.2.1 = some (tyX4 k) := by decide +kernel
abbrev cX4_init : ByteArray := prog_6_method_1_code
def yX4_init : MethodName := ⟨RX4, "<init>", "()V"⟩
abbrev cX4_hasFirm : ByteArray := prog_6_method_2_code
def yX4_hasFirm : MethodName := ⟨RX4, "hasFirm", "(I)Z"⟩
abbrev cX4_hasObject : ByteArray := prog_6_method_3_code
def yX4_hasObject : MethodName := ⟨RX4, "hasObject", "(I)Z"⟩
abbrev cX4_addFirm : ByteArray := prog_6_method_4_code
def yX4_addFirm : MethodName := ⟨RX4, "addFirm", "(I)I"⟩
abbrev cX4_addObject : ByteArray := prog_6_method_5_code
def yX4_addObject : MethodName := ⟨RX4, "addObject", "(I)I"⟩
abbrev cX4_letRead : ByteArray := prog_6_method_6_code
def yX4_letRead : MethodName := ⟨RX4, "letRead", "(II)Z"⟩
abbrev cX4_onReading : ByteArray := prog_6_method_7_code
def yX4_onReading : MethodName := ⟨RX4, "onReading", "(II)I"⟩
abbrev cX4_onWriting : ByteArray := prog_6_method_8_code
def yX4_onWriting : MethodName := ⟨RX4, "onWriting", "(II)I"⟩
abbrev cX4_teachFirm : ByteArray := prog_6_method_9_code
def yX4_teachFirm : MethodName := ⟨RX4, "teachFirm", "(II)V"⟩
abbrev cX4_showFirm : ByteArray := prog_6_method_10_code
def yX4_showFirm : MethodName := ⟨RX4, "showFirm", "(II)V"⟩
def RX5 : String := "WallDesk"
def TX5 : u_T := fun k => match k with
  | 0 => ("WallDesk", "rolesOf", "[I", true)
  | 1 => ("WallDesk", "walls", "LWallDesk$Walls;", true)
  | 2 => ("WallDesk", "glasses", "LWallDesk$Glasses;", true)
  | 3 => ("WallDesk", "kinds", "[LWallDesk$Kind;", true)
  | 4 => ("WallDesk", "cases", "[LWallDesk$Case;", true)
  | 5 => ("WallDesk", "log", "LWallDesk$Log;", true)
  | 6 => ("WallDesk", "kindCount", "I", false)
  | 7 => ("WallDesk", "caseCount", "I", false)
  | _ => ("WallDesk", "now", "I", false)
def tyX5 : Nat → FieldType := fun k => match k with
  | 0 => .array .int
  | 1 => .object "WallDesk$Walls"
  | 2 => .object "WallDesk$Glasses"
  | 3 => .array (.object "WallDesk$Kind")
  | 4 => .array (.object "WallDesk$Case")
  | 5 => .object "WallDesk$Log"
  | 6 => .int
  | 7 => .int
  | _ => .int
abbrev wsX50 : List Cond := u_ws RX5 TX5 9
theorem nmX5 : ∀ a, a < 9 → ∀ b, b < 9 → a ≠ b → (TX5 a).2.1 ≠ (TX5 b).2.1 := by decide +kernel
theorem tyX5_ok : ∀ k, k < 9 → parseFieldDescriptor (TX5 k).2.2.1 = some (tyX5 k) := by decide +kernel
abbrev cX5_init : ByteArray := prog_1_method_1_code
def yX5_init : MethodName := ⟨RX5, "<init>", "()V"⟩
abbrev cX5_tick : ByteArray := prog_1_method_2_code
def yX5_tick : MethodName := ⟨RX5, "tick", "(I)I"⟩
abbrev cX5_roles : ByteArray := prog_1_method_3_code
def yX5_roles : MethodName := ⟨RX5, "roles", "(II)I"⟩
abbrev cX5_firm : ByteArray := prog_1_method_4_code
def yX5_firm : MethodName := ⟨RX5, "firm", "(I)I"⟩
abbrev cX5_object : ByteArray := prog_1_method_5_code
def yX5_object : MethodName := ⟨RX5, "object", "(I)I"⟩
abbrev cX5_read : ByteArray := prog_1_method_6_code
def yX5_read : MethodName := ⟨RX5, "read", "(II)I"⟩
abbrev cX5_write : ByteArray := prog_1_method_7_code
def yX5_write : MethodName := ⟨RX5, "write", "(II)I"⟩
abbrev cX5_glass : ByteArray := prog_1_method_8_code
def yX5_glass : MethodName := ⟨RX5, "glass", "(III)I"⟩
abbrev cX5_takeOff : ByteArray := prog_1_method_9_code
def yX5_takeOff : MethodName := ⟨RX5, "takeOff", "(II)I"⟩
abbrev cX5_kind : ByteArray := prog_1_method_10_code
def yX5_kind : MethodName := ⟨RX5, "kind", "()I"⟩
abbrev cX5_task : ByteArray := prog_1_method_11_code
def yX5_task : MethodName := ⟨RX5, "task", "(III)I"⟩
abbrev cX5_apart : ByteArray := prog_1_method_12_code
def yX5_apart : MethodName := ⟨RX5, "apart", "(III)I"⟩
abbrev cX5_bound : ByteArray := prog_1_method_13_code
def yX5_bound : MethodName := ⟨RX5, "bound", "(III)I"⟩
abbrev cX5_most : ByteArray := prog_1_method_14_code
def yX5_most : MethodName := ⟨RX5, "most", "(II)I"⟩
abbrev cX5_open : ByteArray := prog_1_method_15_code
def yX5_open : MethodName := ⟨RX5, "open", "(I)I"⟩
abbrev cX5_perform : ByteArray := prog_1_method_16_code
def yX5_perform : MethodName := ⟨RX5, "perform", "(III)I"⟩
abbrev cX5_canEnd : ByteArray := prog_1_method_17_code
def yX5_canEnd : MethodName := ⟨RX5, "canEnd", "(I)I"⟩
abbrev cX5_doer : ByteArray := prog_1_method_18_code
def yX5_doer : MethodName := ⟨RX5, "doer", "(II)I"⟩
abbrev cX5_told : ByteArray := prog_1_method_19_code
def yX5_told : MethodName := ⟨RX5, "told", "(II)I"⟩
abbrev cX5_glassTold : ByteArray := prog_1_method_20_code
def yX5_glassTold : MethodName := ⟨RX5, "glassTold", "(II)I"⟩
abbrev cX5_entry : ByteArray := prog_1_method_21_code
def yX5_entry : MethodName := ⟨RX5, "entry", "(II)I"⟩
abbrev cX5_link : ByteArray := prog_1_method_22_code
def yX5_link : MethodName := ⟨RX5, "link", "(I)J"⟩
abbrev cX5_alter : ByteArray := prog_1_method_23_code
def yX5_alter : MethodName := ⟨RX5, "alter", "(III)I"⟩
abbrev cX5_check : ByteArray := prog_1_method_24_code
def yX5_check : MethodName := ⟨RX5, "check", "()I"⟩
abbrev cX5_count : ByteArray := prog_1_method_25_code
def yX5_count : MethodName := ⟨RX5, "count", "(I)I"⟩
abbrev cX5_reach : ByteArray := prog_1_method_26_code
def yX5_reach : MethodName := ⟨RX5, "reach", "(III)I"⟩
abbrev cX5_kindAt : ByteArray := prog_1_method_27_code
def yX5_kindAt : MethodName := ⟨RX5, "kindAt", "(I)LWallDesk$Kind;"⟩
abbrev cX5_alterableKind : ByteArray := prog_1_method_28_code
def yX5_alterableKind : MethodName := ⟨RX5, "alterableKind", "(I)LWallDesk$Kind;"⟩
abbrev cX5_caseAt : ByteArray := prog_1_method_29_code
def yX5_caseAt : MethodName := ⟨RX5, "caseAt", "(I)LWallDesk$Case;"⟩
abbrev cX5_isUser : ByteArray := prog_1_method_30_code
def yX5_isUser : MethodName := ⟨RX5, "isUser", "(I)Z"⟩
abbrev cX5_isBelow : ByteArray := prog_1_method_31_code
def yX5_isBelow : MethodName := ⟨RX5, "isBelow", "(II)Z"⟩
abbrev cX5_hasBit : ByteArray := prog_1_method_32_code
def yX5_hasBit : MethodName := ⟨RX5, "hasBit", "(II)Z"⟩
abbrev cX5_asNumber : ByteArray := prog_1_method_33_code
def yX5_asNumber : MethodName := ⟨RX5, "asNumber", "(Z)I"⟩
abbrev cX5_joinPair : ByteArray := prog_1_method_34_code
def yX5_joinPair : MethodName := ⟨RX5, "joinPair", "([III)I"⟩
def RX6 : String := "WallDeskModel"
def TX6 : u_T := fun k => match k with
  | 0 => ("WallDeskModel", "now", "I", false)
  | 1 => ("WallDeskModel", "roles", "[I", true)
  | 2 => ("WallDeskModel", "known", "[I", true)
  | 3 => ("WallDeskModel", "seen", "[I", true)
  | 4 => ("WallDeskModel", "firmClass", "[I", true)
  | 5 => ("WallDeskModel", "firms", "I", false)
  | 6 => ("WallDeskModel", "objectFirm", "[I", true)
  | 7 => ("WallDeskModel", "objects", "I", false)
  | 8 => ("WallDeskModel", "glassUser", "[I", true)
  | 9 => ("WallDeskModel", "glassFirm", "[I", true)
  | 10 => ("WallDeskModel", "glassEnd", "[I", true)
  | 11 => ("WallDeskModel", "dutyOpen", "[Z", true)
  | 12 => ("WallDeskModel", "glasses", "I", false)
  | 13 => ("WallDeskModel", "taskMany", "[I", true)
  | 14 => ("WallDeskModel", "taskRole", "[I", true)
  | 15 => ("WallDeskModel", "taskBefore", "[I", true)
  | 16 => ("WallDeskModel", "isApart", "[Z", true)
  | 17 => ("WallDeskModel", "isBound", "[Z", true)
  | 18 => ("WallDeskModel", "mosts", "[I", true)
  | 19 => ("WallDeskModel", "kinds", "I", false)
  | 20 => ("WallDeskModel", "caseKind", "[I", true)
  | 21 => ("WallDeskModel", "doers", "[I", true)
  | 22 => ("WallDeskModel", "cases", "I", false)
  | 23 => ("WallDeskModel", "entries", "[I", true)
  | 24 => ("WallDeskModel", "links", "[J", true)
  | 25 => ("WallDeskModel", "many", "I", false)
  | _ => ("WallDeskModel", "tried", "[I", true)
def tyX6 : Nat → FieldType := fun k => match k with
  | 0 => .int
  | 1 => .array .int
  | 2 => .array .int
  | 3 => .array .int
  | 4 => .array .int
  | 5 => .int
  | 6 => .array .int
  | 7 => .int
  | 8 => .array .int
  | 9 => .array .int
  | 10 => .array .int
  | 11 => .array .boolean
  | 12 => .int
  | 13 => .array .int
  | 14 => .array .int
  | 15 => .array .int
  | 16 => .array .boolean
  | 17 => .array .boolean
  | 18 => .array .int
  | 19 => .int
  | 20 => .array .int
  | 21 => .array .int
  | 22 => .int
  | 23 => .array .int
  | 24 => .array .long
  | 25 => .int
  | _ => .array .int
abbrev wsX60 : List Cond := u_ws RX6 TX6 27
theorem nmX6 : ∀ a, a < 27 → ∀ b, b < 27 → a ≠ b → (TX6 a).2.1 ≠ (TX6 b).2.1 := by decide +kernel
theorem tyX6_ok : ∀ k, k < 27 → parseFieldDescriptor (TX6 k).2.2.1 = some (tyX6 k) := by decide +kernel
abbrev cX6_init : ByteArray := prog_8_method_1_code
def yX6_init : MethodName := ⟨RX6, "<init>", "()V"⟩
abbrev cX6_isIn : ByteArray := prog_8_method_2_code
def yX6_isIn : MethodName := ⟨RX6, "isIn", "(III)Z"⟩
abbrev cX6_isUser : ByteArray := prog_8_method_3_code
def yX6_isUser : MethodName := ⟨RX6, "isUser", "(I)Z"⟩
abbrev cX6_tick : ByteArray := prog_8_method_4_code
def yX6_tick : MethodName := ⟨RX6, "tick", "(I)I"⟩
abbrev cX6_roles : ByteArray := prog_8_method_5_code
def yX6_roles : MethodName := ⟨RX6, "roles", "(II)I"⟩
abbrev cX6_firm : ByteArray := prog_8_method_6_code
def yX6_firm : MethodName := ⟨RX6, "firm", "(I)I"⟩
abbrev cX6_object : ByteArray := prog_8_method_7_code
def yX6_object : MethodName := ⟨RX6, "object", "(I)I"⟩
abbrev cX6_linkOf : ByteArray := prog_8_method_8_code
def yX6_linkOf : MethodName := ⟨RX6, "linkOf", "(JIIIII)J"⟩
abbrev cX6_linkAt : ByteArray := prog_8_method_9_code
def yX6_linkAt : MethodName := ⟨RX6, "linkAt", "(I)J"⟩
abbrev cX6_enter : ByteArray := prog_8_method_10_code
def yX6_enter : MethodName := ⟨RX6, "enter", "(IIII)V"⟩
abbrev cX6_isOpen : ByteArray := prog_8_method_11_code
def yX6_isOpen : MethodName := ⟨RX6, "isOpen", "(I)Z"⟩
abbrev cX6_isWalled : ByteArray := prog_8_method_12_code
def yX6_isWalled : MethodName := ⟨RX6, "isWalled", "(II)Z"⟩
abbrev cX6_hasGlass : ByteArray := prog_8_method_13_code
def yX6_hasGlass : MethodName := ⟨RX6, "hasGlass", "(II)Z"⟩
abbrev cX6_read : ByteArray := prog_8_method_14_code
def yX6_read : MethodName := ⟨RX6, "read", "(II)I"⟩
abbrev cX6_write : ByteArray := prog_8_method_15_code
def yX6_write : MethodName := ⟨RX6, "write", "(II)I"⟩
abbrev cX6_access : ByteArray := prog_8_method_16_code
def yX6_access : MethodName := ⟨RX6, "access", "(III)I"⟩
abbrev cX6_duties : ByteArray := prog_8_method_17_code
def yX6_duties : MethodName := ⟨RX6, "duties", "(I)I"⟩
abbrev cX6_isLate : ByteArray := prog_8_method_18_code
def yX6_isLate : MethodName := ⟨RX6, "isLate", "(I)Z"⟩
abbrev cX6_glass : ByteArray := prog_8_method_19_code
def yX6_glass : MethodName := ⟨RX6, "glass", "(III)I"⟩
abbrev cX6_takeOff : ByteArray := prog_8_method_20_code
def yX6_takeOff : MethodName := ⟨RX6, "takeOff", "(II)I"⟩
abbrev cX6_kind : ByteArray := prog_8_method_21_code
def yX6_kind : MethodName := ⟨RX6, "kind", "()I"⟩
abbrev cX6_isFree : ByteArray := prog_8_method_22_code
def yX6_isFree : MethodName := ⟨RX6, "isFree", "(I)Z"⟩
abbrev cX6_task : ByteArray := prog_8_method_23_code
def yX6_task : MethodName := ⟨RX6, "task", "(III)I"⟩
abbrev cX6_arePair : ByteArray := prog_8_method_24_code
def yX6_arePair : MethodName := ⟨RX6, "arePair", "(III)Z"⟩
abbrev cX6_pair : ByteArray := prog_8_method_25_code
def yX6_pair : MethodName := ⟨RX6, "pair", "(III)I"⟩
abbrev cX6_apart : ByteArray := prog_8_method_26_code
def yX6_apart : MethodName := ⟨RX6, "apart", "(III)I"⟩
abbrev cX6_bound : ByteArray := prog_8_method_27_code
def yX6_bound : MethodName := ⟨RX6, "bound", "(III)I"⟩
abbrev cX6_most : ByteArray := prog_8_method_28_code
def yX6_most : MethodName := ⟨RX6, "most", "(II)I"⟩
abbrev cX6_open : ByteArray := prog_8_method_29_code
def yX6_open : MethodName := ⟨RX6, "open", "(I)I"⟩
abbrev cX6_isTask : ByteArray := prog_8_method_30_code
def yX6_isTask : MethodName := ⟨RX6, "isTask", "(II)Z"⟩
abbrev cX6_isFit : ByteArray := prog_8_method_31_code
def yX6_isFit : MethodName := ⟨RX6, "isFit", "(II)Z"⟩
abbrev cX6_canBe : ByteArray := prog_8_method_32_code
def yX6_canBe : MethodName := ⟨RX6, "canBe", "(I)Z"⟩
abbrev cX6_canEnd : ByteArray := prog_8_method_33_code
def yX6_canEnd : MethodName := ⟨RX6, "canEnd", "(I)I"⟩
abbrev cX6_doer : ByteArray := prog_8_method_34_code
def yX6_doer : MethodName := ⟨RX6, "doer", "(II)I"⟩
abbrev cX6_perform : ByteArray := prog_8_method_35_code
def yX6_perform : MethodName := ⟨RX6, "perform", "(III)I"⟩
abbrev cX6_told : ByteArray := prog_8_method_36_code
def yX6_told : MethodName := ⟨RX6, "told", "(II)I"⟩
abbrev cX6_glassTold : ByteArray := prog_8_method_37_code
def yX6_glassTold : MethodName := ⟨RX6, "glassTold", "(II)I"⟩
abbrev cX6_entry : ByteArray := prog_8_method_38_code
def yX6_entry : MethodName := ⟨RX6, "entry", "(II)I"⟩
abbrev cX6_link : ByteArray := prog_8_method_39_code
def yX6_link : MethodName := ⟨RX6, "link", "(I)J"⟩
abbrev cX6_alter : ByteArray := prog_8_method_40_code
def yX6_alter : MethodName := ⟨RX6, "alter", "(III)I"⟩
abbrev cX6_check : ByteArray := prog_8_method_41_code
def yX6_check : MethodName := ⟨RX6, "check", "()I"⟩
abbrev cX6_count : ByteArray := prog_8_method_42_code
def yX6_count : MethodName := ⟨RX6, "count", "(I)I"⟩
def RJ6 : String := "java/lang/Integer"
def TJ6 : u_T := fun k => match k with
  | _ => ("", "", "", false)
def tyJ6 : Nat → FieldType := fun k => match k with
  | _ => .int
abbrev wsJ60 : List Cond := u_ws RJ6 TJ6 0
theorem nmJ6 : ∀ a, a < 0 → ∀ b, b < 0 → a ≠ b → (TJ6 a).2.1 ≠ (TJ6 b).2.1 := by decide +kernel
theorem tyJ6_ok : ∀ k, k < 0 → parseFieldDescriptor (TJ6 k).2.2.1 = some (tyJ6 k) := by decide +kernel
abbrev cJ6_bitCount_0f7a4 : ByteArray := prog_9_method_49_code
def yJ6_bitCount_0f7a4 : MethodName := ⟨RJ6, "bitCount", "(I)I"⟩
def RJ9 : String := "java/lang/Math"
def TJ9 : u_T := fun k => match k with
  | _ => ("", "", "", false)
def tyJ9 : Nat → FieldType := fun k => match k with
  | _ => .int
abbrev wsJ90 : List Cond := u_ws RJ9 TJ9 0
theorem nmJ9 : ∀ a, a < 0 → ∀ b, b < 0 → a ≠ b → (TJ9 a).2.1 ≠ (TJ9 b).2.1 := by decide +kernel
theorem tyJ9_ok : ∀ k, k < 0 → parseFieldDescriptor (TJ9 k).2.2.1 = some (tyJ9 k) := by decide +kernel
abbrev cJ9_max_7cf53 : ByteArray := prog_10_method_65_code
def yJ9_max_7cf53 : MethodName := ⟨RJ9, "max", "(II)I"⟩
abbrev cJ9_min_7cf53 : ByteArray := prog_10_method_69_code
def yJ9_min_7cf53 : MethodName := ⟨RJ9, "min", "(II)I"⟩
def RL : String := "WallDeskLaw"
abbrev cL_law : ByteArray := code
def yL_law : MethodName := ⟨RL, "law", "([I)Z"⟩
abbrev vwCl : List vw_C := [(RX0, TX0, 2), (RX1, TX1, 5), (RX2, TX2, 7), (RX3, TX3, 3), (RX4, TX4, 7), (RX5, TX5, 9), (RX6, TX6, 27)]

